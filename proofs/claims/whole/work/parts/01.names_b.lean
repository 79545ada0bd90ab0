theorem inJ9 : ∀ w ∈ wsJ90, w ∈ lw_tbl := by decide +kernel
theorem inJ0 : ∀ w ∈ wsJ00, w ∈ lw_tbl := by decide +kernel
theorem inJ1 : ∀ w ∈ wsJ10, w ∈ lw_tbl := by decide +kernel
theorem inJ2 : ∀ w ∈ wsJ20, w ∈ lw_tbl := by decide +kernel
theorem inJ10 : ∀ w ∈ wsJ100, w ∈ lw_tbl := by decide +kernel
theorem inJ3 : ∀ w ∈ wsJ30, w ∈ lw_tbl := by decide +kernel
set_option maxRecDepth 20000 in
theorem ggX0_init_X8_init : GoodIn wsX0_init wsX8_init := goodIn_r _ [4, 5, 6, 7, 8, 9, 10, 11, 12, 13, 14, 15, 16, 17, 18, 19, 20, 21, 22, 23, 24, 25, 26, 27, 28] (by decide +kernel) (by decide +kernel)
set_option maxRecDepth 20000 in
theorem gX0_init_X8_init : GoodIn wsX0_init (wsX8_init) := ggX0_init_X8_init
theorem dX0_init_0 : decode cX0_init 0 = .ok (.aload_n 0, 1) := by decide +kernel
theorem dX0_init_1 : decode cX0_init 1 = .ok (.iload_n 1, 1) := by decide +kernel
theorem dX0_init_2 : decode cX0_init 2 = .ok (.iload_n 2, 1) := by decide +kernel
theorem dX0_init_3 : decode cX0_init 3 = .ok (.aload_n 3, 1) := by decide +kernel
theorem dX0_init_4 : decode cX0_init 4 = .ok (.invokespecial 1, 3) := by decide +kernel
theorem dX0_init_7 : decode cX0_init 7 = .ok (.return_, 1) := by decide +kernel
set_option maxRecDepth 20000 in
theorem ggX0_shows_X9_begin : GoodIn wsX0_shows wsX9_begin := goodIn_r _ [7, 8, 9, 10, 38, 39, 40] (by decide +kernel) (by decide +kernel)
set_option maxRecDepth 20000 in
theorem gX0_shows_X9_begin : GoodIn wsX0_shows (wsV RX0 13 RX9 yX9_begin wsX9_begin) := goodIn_app (goodIn_of _ (by decide +kernel)) ggX0_shows_X9_begin
set_option maxRecDepth 20000 in
theorem ggX0_shows_X8_shows : GoodIn wsX0_shows wsX8_shows := goodIn_r _ [16, 17, 18, 19, 4, 5, 6, 7, 8, 9, 10, 20, 21, 22, 23, 24, 25, 26, 27, 28, 29, 30, 31, 32, 33, 34, 35, 36, 37, 38, 39, 40] (by decide +kernel) (by decide +kernel)
set_option maxRecDepth 20000 in
theorem gX0_shows_X8_shows_s19 : GoodIn wsX0_shows (va_wsSU RX0 19 yX8_shows wsX8_shows) := goodIn_app (goodIn_of _ (by decide +kernel)) ggX0_shows_X8_shows
theorem dX0_shows_0 : decode cX0_shows 0 = .ok (.aload_n 0, 1) := by decide +kernel
theorem dX0_shows_1 : decode cX0_shows 1 = .ok (.getfield 7, 3) := by decide +kernel
theorem dX0_shows_4 : decode cX0_shows 4 = .ok (.bipush 30, 2) := by decide +kernel
theorem dX0_shows_6 : decode cX0_shows 6 = .ok (.invokevirtual 13, 3) := by decide +kernel
theorem dX0_shows_9 : decode cX0_shows 9 = .ok (.aload_n 0, 1) := by decide +kernel
theorem dX0_shows_10 : decode cX0_shows 10 = .ok (.iload_n 1, 1) := by decide +kernel
theorem dX0_shows_11 : decode cX0_shows 11 = .ok (.invokespecial 19, 3) := by decide +kernel
theorem dX0_shows_14 : decode cX0_shows 14 = .ok (.iconst 3, 1) := by decide +kernel
theorem dX0_shows_15 : decode cX0_shows 15 = .ok (.imul, 1) := by decide +kernel
theorem dX0_shows_16 : decode cX0_shows 16 = .ok (.ireturn, 1) := by decide +kernel
set_option maxRecDepth 20000 in
theorem ggX0_tells_X9_begin : GoodIn wsX0_tells wsX9_begin := goodIn_r _ [9, 10, 11, 12, 112, 113, 114] (by decide +kernel) (by decide +kernel)
set_option maxRecDepth 20000 in
theorem gX0_tells_X9_begin : GoodIn wsX0_tells (wsV RX0 13 RX9 yX9_begin wsX9_begin) := goodIn_app (goodIn_of _ (by decide +kernel)) ggX0_tells_X9_begin
set_option maxRecDepth 20000 in
theorem ggX0_tells_X8_tells : GoodIn wsX0_tells wsX8_tells := goodIn_r _ [18, 19, 20, 21, 6, 7, 8, 9, 10, 11, 12, 22, 23, 24, 25, 17, 26, 27, 28, 29, 30, 31, 32, 33, 1, 2, 5, 34, 15, 35, 36, 37, 38, 39, 40, 41, 42, 43, 44, 45, 46, 47, 48, 49, 50, 51, 52, 53, 54, 55, 56, 57, 58, 59, 60, 61, 62, 63, 64, 65, 66, 67, 68, 69, 70, 71, 72, 73, 74, 75, 76, 77, 78, 79, 80, 81, 82, 83, 94, 95, 96, 97, 98, 99, 100, 101, 102, 103, 104, 105, 106, 107, 108, 109, 110, 111, 112, 113, 114] (by decide +kernel) (by decide +kernel)
set_option maxRecDepth 20000 in
theorem gX0_tells_X8_tells_s23 : GoodIn wsX0_tells (va_wsSU RX0 23 yX8_tells wsX8_tells) := goodIn_app (goodIn_of _ (by decide +kernel)) ggX0_tells_X8_tells
set_option maxRecDepth 20000 in
theorem ggX0_tells_X8_shares : GoodIn wsX0_tells wsX8_shares := goodIn_r _ [88, 19, 20, 37, 21, 6, 7, 8, 9, 10, 11, 12, 89, 90, 91, 92, 94, 95, 96, 97, 98, 99, 100, 101, 102, 103, 104, 105, 106, 107, 108, 109, 110, 111, 112, 113, 114] (by decide +kernel) (by decide +kernel)
set_option maxRecDepth 20000 in
theorem gX0_tells_X8_shares_u30X0 : GoodIn wsX0_tells (va_wsU RX0 30 RX0 "SlowPanes$Thing" ⟨"SlowPanes$DarkThing", "shares", "(I)I"⟩ yX8_shares wsX8_shares) := goodIn_app (goodIn_of _ (by decide +kernel)) ggX0_tells_X8_shares
set_option maxRecDepth 20000 in
theorem gX0_tells_X8_shares_u30X5 : GoodIn wsX0_tells (va_wsU RX0 30 RX5 "SlowPanes$Thing" ⟨"SlowPanes$DarkThing", "shares", "(I)I"⟩ yX8_shares wsX8_shares) := goodIn_app (goodIn_of _ (by decide +kernel)) ggX0_tells_X8_shares
theorem dX0_tells_0 : decode cX0_tells 0 = .ok (.aload_n 0, 1) := by decide +kernel
theorem dX0_tells_1 : decode cX0_tells 1 = .ok (.getfield 7, 3) := by decide +kernel
theorem dX0_tells_4 : decode cX0_tells 4 = .ok (.bipush 31, 2) := by decide +kernel
theorem dX0_tells_6 : decode cX0_tells 6 = .ok (.invokevirtual 13, 3) := by decide +kernel
theorem dX0_tells_9 : decode cX0_tells 9 = .ok (.aload_n 0, 1) := by decide +kernel
theorem dX0_tells_10 : decode cX0_tells 10 = .ok (.iload_n 1, 1) := by decide +kernel
theorem dX0_tells_11 : decode cX0_tells 11 = .ok (.invokespecial 23, 3) := by decide +kernel
theorem dX0_tells_14 : decode cX0_tells 14 = .ok (.aload_n 0, 1) := by decide +kernel
theorem dX0_tells_15 : decode cX0_tells 15 = .ok (.aload_n 0, 1) := by decide +kernel
theorem dX0_tells_16 : decode cX0_tells 16 = .ok (.getfield 26, 3) := by decide +kernel
theorem dX0_tells_19 : decode cX0_tells 19 = .ok (.invokevirtual 30, 3) := by decide +kernel
theorem dX0_tells_22 : decode cX0_tells 22 = .ok (.iadd, 1) := by decide +kernel
theorem dX0_tells_23 : decode cX0_tells 23 = .ok (.ireturn, 1) := by decide +kernel
set_option maxRecDepth 20000 in
theorem ggX1_init_X7_init : GoodIn wsX1_init wsX7_init := goodIn_r _ [4, 5, 6, 7, 8, 9, 10, 11, 12, 13, 14, 15, 16, 17, 18, 19, 20, 21, 22, 23, 24, 25, 26, 27, 28, 29, 30, 31, 32] (by decide +kernel) (by decide +kernel)
set_option maxRecDepth 20000 in
theorem gX1_init_X7_init : GoodIn wsX1_init (wsX7_init) := ggX1_init_X7_init
theorem dX1_init_0 : decode cX1_init 0 = .ok (.aload_n 0, 1) := by decide +kernel
theorem dX1_init_1 : decode cX1_init 1 = .ok (.iload_n 1, 1) := by decide +kernel
theorem dX1_init_2 : decode cX1_init 2 = .ok (.iload_n 2, 1) := by decide +kernel
theorem dX1_init_3 : decode cX1_init 3 = .ok (.aload_n 3, 1) := by decide +kernel
theorem dX1_init_4 : decode cX1_init 4 = .ok (.invokespecial 1, 3) := by decide +kernel
theorem dX1_init_7 : decode cX1_init 7 = .ok (.return_, 1) := by decide +kernel
set_option maxRecDepth 20000 in
theorem ggX1_shares_X9_begin : GoodIn wsX1_shares wsX9_begin := goodIn_r _ [7, 8, 9, 10, 29, 30, 31] (by decide +kernel) (by decide +kernel)
set_option maxRecDepth 20000 in
theorem gX1_shares_X9_begin : GoodIn wsX1_shares (wsV RX1 13 RX9 yX9_begin wsX9_begin) := goodIn_app (goodIn_of _ (by decide +kernel)) ggX1_shares_X9_begin
theorem dX1_shares_0 : decode cX1_shares 0 = .ok (.aload_n 0, 1) := by decide +kernel
theorem dX1_shares_1 : decode cX1_shares 1 = .ok (.getfield 7, 3) := by decide +kernel
theorem dX1_shares_4 : decode cX1_shares 4 = .ok (.bipush 50, 2) := by decide +kernel
theorem dX1_shares_6 : decode cX1_shares 6 = .ok (.invokevirtual 13, 3) := by decide +kernel
theorem dX1_shares_9 : decode cX1_shares 9 = .ok (.aload_n 0, 1) := by decide +kernel
theorem dX1_shares_10 : decode cX1_shares 10 = .ok (.iload_n 1, 1) := by decide +kernel
theorem dX1_shares_11 : decode cX1_shares 11 = .ok (.iconst 2, 1) := by decide +kernel
theorem dX1_shares_12 : decode cX1_shares 12 = .ok (.iadd, 1) := by decide +kernel
theorem dX1_shares_13 : decode cX1_shares 13 = .ok (.invokespecial 19, 3) := by decide +kernel
theorem dX1_shares_16 : decode cX1_shares 16 = .ok (.iconst 1, 1) := by decide +kernel
theorem dX1_shares_17 : decode cX1_shares 17 = .ok (.ixor, 1) := by decide +kernel
theorem dX1_shares_18 : decode cX1_shares 18 = .ok (.ireturn, 1) := by decide +kernel
set_option maxRecDepth 20000 in
theorem ggX1_shows_X9_begin : GoodIn wsX1_shows wsX9_begin := goodIn_r _ [9, 10, 11, 12, 31, 32, 33] (by decide +kernel) (by decide +kernel)
set_option maxRecDepth 20000 in
theorem gX1_shows_X9_begin : GoodIn wsX1_shows (wsV RX1 13 RX9 yX9_begin wsX9_begin) := goodIn_app (goodIn_of _ (by decide +kernel)) ggX1_shows_X9_begin
theorem dX1_shows_0 : decode cX1_shows 0 = .ok (.aload_n 0, 1) := by decide +kernel
theorem dX1_shows_1 : decode cX1_shows 1 = .ok (.getfield 7, 3) := by decide +kernel
theorem dX1_shows_4 : decode cX1_shows 4 = .ok (.bipush 51, 2) := by decide +kernel
theorem dX1_shows_6 : decode cX1_shows 6 = .ok (.invokevirtual 13, 3) := by decide +kernel
theorem dX1_shows_9 : decode cX1_shows 9 = .ok (.aload_n 0, 1) := by decide +kernel
theorem dX1_shows_10 : decode cX1_shows 10 = .ok (.iload_n 1, 1) := by decide +kernel
theorem dX1_shows_11 : decode cX1_shows 11 = .ok (.invokespecial 23, 3) := by decide +kernel
theorem dX1_shows_14 : decode cX1_shows 14 = .ok (.aload_n 0, 1) := by decide +kernel
theorem dX1_shows_15 : decode cX1_shows 15 = .ok (.getfield 26, 3) := by decide +kernel
theorem dX1_shows_18 : decode cX1_shows 18 = .ok (.isub, 1) := by decide +kernel
theorem dX1_shows_19 : decode cX1_shows 19 = .ok (.ireturn, 1) := by decide +kernel
set_option maxRecDepth 20000 in
theorem ggX2_init_X8_init : GoodIn wsX2_init wsX8_init := goodIn_r _ [4, 5, 6, 7, 8, 9, 10, 11, 12, 13, 14, 15, 16, 17, 18, 19, 20, 21, 22, 23, 24, 25, 26, 27, 28] (by decide +kernel) (by decide +kernel)
set_option maxRecDepth 20000 in
theorem gX2_init_X8_init : GoodIn wsX2_init (wsX8_init) := ggX2_init_X8_init
theorem dX2_init_0 : decode cX2_init 0 = .ok (.aload_n 0, 1) := by decide +kernel
theorem dX2_init_1 : decode cX2_init 1 = .ok (.iload_n 1, 1) := by decide +kernel
theorem dX2_init_2 : decode cX2_init 2 = .ok (.iload_n 2, 1) := by decide +kernel
theorem dX2_init_3 : decode cX2_init 3 = .ok (.aload_n 3, 1) := by decide +kernel
theorem dX2_init_4 : decode cX2_init 4 = .ok (.invokespecial 1, 3) := by decide +kernel
theorem dX2_init_7 : decode cX2_init 7 = .ok (.return_, 1) := by decide +kernel
set_option maxRecDepth 20000 in
theorem ggX2_tells_X9_begin : GoodIn wsX2_tells wsX9_begin := goodIn_r _ [7, 8, 9, 10, 104, 105, 106] (by decide +kernel) (by decide +kernel)
set_option maxRecDepth 20000 in
theorem gX2_tells_X9_begin : GoodIn wsX2_tells (wsV RX2 13 RX9 yX9_begin wsX9_begin) := goodIn_app (goodIn_of _ (by decide +kernel)) ggX2_tells_X9_begin
set_option maxRecDepth 20000 in
theorem ggX2_tells_X8_tells : GoodIn wsX2_tells wsX8_tells := goodIn_r _ [16, 17, 18, 19, 4, 5, 6, 7, 8, 9, 10, 20, 21, 22, 23, 15, 24, 25, 26, 27, 28, 29, 30, 31, 32, 33, 34, 35, 36, 37, 38, 39, 40, 41, 42, 43, 44, 45, 46, 47, 48, 49, 50, 51, 52, 53, 54, 55, 56, 57, 58, 59, 60, 61, 62, 63, 64, 65, 66, 67, 68, 69, 70, 71, 72, 73, 74, 75, 76, 77, 78, 79, 80, 81, 82, 83, 84, 85, 86, 87, 88, 89, 90, 91, 92, 93, 94, 95, 96, 97, 98, 99, 100, 101, 102, 103, 104, 105, 106] (by decide +kernel) (by decide +kernel)
set_option maxRecDepth 20000 in
theorem gX2_tells_X8_tells_s19 : GoodIn wsX2_tells (va_wsSU RX2 19 yX8_tells wsX8_tells) := goodIn_app (goodIn_of _ (by decide +kernel)) ggX2_tells_X8_tells
theorem dX2_tells_0 : decode cX2_tells 0 = .ok (.aload_n 0, 1) := by decide +kernel
theorem dX2_tells_1 : decode cX2_tells 1 = .ok (.getfield 7, 3) := by decide +kernel
theorem dX2_tells_4 : decode cX2_tells 4 = .ok (.bipush 60, 2) := by decide +kernel
theorem dX2_tells_6 : decode cX2_tells 6 = .ok (.invokevirtual 13, 3) := by decide +kernel
theorem dX2_tells_9 : decode cX2_tells 9 = .ok (.aload_n 0, 1) := by decide +kernel
theorem dX2_tells_10 : decode cX2_tells 10 = .ok (.iload_n 1, 1) := by decide +kernel
theorem dX2_tells_11 : decode cX2_tells 11 = .ok (.invokespecial 19, 3) := by decide +kernel
theorem dX2_tells_14 : decode cX2_tells 14 = .ok (.iconst 2, 1) := by decide +kernel
theorem dX2_tells_15 : decode cX2_tells 15 = .ok (.imul, 1) := by decide +kernel
theorem dX2_tells_16 : decode cX2_tells 16 = .ok (.ireturn, 1) := by decide +kernel
set_option maxRecDepth 20000 in
theorem ggX2_shares_X9_begin : GoodIn wsX2_shares wsX9_begin := goodIn_r _ [9, 10, 11, 12, 50, 51, 52] (by decide +kernel) (by decide +kernel)
set_option maxRecDepth 20000 in
theorem gX2_shares_X9_begin : GoodIn wsX2_shares (wsV RX2 13 RX9 yX9_begin wsX9_begin) := goodIn_app (goodIn_of _ (by decide +kernel)) ggX2_shares_X9_begin
set_option maxRecDepth 20000 in
theorem ggX2_shares_X8_shares : GoodIn wsX2_shares wsX8_shares := goodIn_r _ [18, 19, 20, 21, 22, 6, 7, 8, 9, 10, 11, 12, 23, 24, 25, 26, 32, 33, 34, 35, 36, 37, 38, 39, 40, 41, 42, 43, 44, 45, 46, 47, 48, 49, 50, 51, 52] (by decide +kernel) (by decide +kernel)
set_option maxRecDepth 20000 in
theorem gX2_shares_X8_shares_s23 : GoodIn wsX2_shares (va_wsSU RX2 23 yX8_shares wsX8_shares) := goodIn_app (goodIn_of _ (by decide +kernel)) ggX2_shares_X8_shares
set_option maxRecDepth 20000 in
theorem ggX2_shares_X8_shows : GoodIn wsX2_shares wsX8_shows := goodIn_r _ [31, 19, 21, 22, 6, 7, 8, 9, 10, 11, 12, 32, 33, 34, 35, 36, 37, 38, 39, 40, 41, 42, 43, 44, 45, 46, 47, 48, 49, 50, 51, 52] (by decide +kernel) (by decide +kernel)
set_option maxRecDepth 20000 in
theorem gX2_shares_X8_shows_u30X2 : GoodIn wsX2_shares (va_wsU RX2 30 RX2 "SlowPanes$Thing" ⟨"SlowPanes$MirrorThing", "shows", "(I)I"⟩ yX8_shows wsX8_shows) := goodIn_app (goodIn_of _ (by decide +kernel)) ggX2_shares_X8_shows
theorem dX2_shares_0 : decode cX2_shares 0 = .ok (.aload_n 0, 1) := by decide +kernel
theorem dX2_shares_1 : decode cX2_shares 1 = .ok (.getfield 7, 3) := by decide +kernel
theorem dX2_shares_4 : decode cX2_shares 4 = .ok (.bipush 61, 2) := by decide +kernel
theorem dX2_shares_6 : decode cX2_shares 6 = .ok (.invokevirtual 13, 3) := by decide +kernel
theorem dX2_shares_9 : decode cX2_shares 9 = .ok (.aload_n 0, 1) := by decide +kernel
theorem dX2_shares_10 : decode cX2_shares 10 = .ok (.iload_n 1, 1) := by decide +kernel
theorem dX2_shares_11 : decode cX2_shares 11 = .ok (.invokespecial 23, 3) := by decide +kernel
theorem dX2_shares_14 : decode cX2_shares 14 = .ok (.aload_n 0, 1) := by decide +kernel
theorem dX2_shares_15 : decode cX2_shares 15 = .ok (.aload_n 0, 1) := by decide +kernel
theorem dX2_shares_16 : decode cX2_shares 16 = .ok (.getfield 26, 3) := by decide +kernel
theorem dX2_shares_19 : decode cX2_shares 19 = .ok (.invokevirtual 30, 3) := by decide +kernel
theorem dX2_shares_22 : decode cX2_shares 22 = .ok (.iadd, 1) := by decide +kernel
theorem dX2_shares_23 : decode cX2_shares 23 = .ok (.ireturn, 1) := by decide +kernel
theorem dX3_init_0 : decode cX3_init 0 = .ok (.aload_n 0, 1) := by decide +kernel
theorem dX3_init_1 : decode cX3_init 1 = .ok (.invokespecial 3, 3) := by decide +kernel
theorem dX3_init_4 : decode cX3_init 4 = .ok (.aload_n 0, 1) := by decide +kernel
theorem dX3_init_5 : decode cX3_init 5 = .ok (.bipush 16, 2) := by decide +kernel
theorem dX3_init_7 : decode cX3_init 7 = .ok (.newarray .int, 2) := by decide +kernel
theorem dX3_init_9 : decode cX3_init 9 = .ok (.putfield 9, 3) := by decide +kernel
theorem dX3_init_12 : decode cX3_init 12 = .ok (.aload_n 0, 1) := by decide +kernel
theorem dX3_init_13 : decode cX3_init 13 = .ok (.iconst 0, 1) := by decide +kernel
theorem dX3_init_14 : decode cX3_init 14 = .ok (.putfield 15, 3) := by decide +kernel
theorem dX3_init_17 : decode cX3_init 17 = .ok (.aload_n 0, 1) := by decide +kernel
theorem dX3_init_18 : decode cX3_init 18 = .ok (.iconst 0, 1) := by decide +kernel
theorem dX3_init_19 : decode cX3_init 19 = .ok (.putfield 19, 3) := by decide +kernel
theorem dX3_init_22 : decode cX3_init 22 = .ok (.aload_n 0, 1) := by decide +kernel
theorem dX3_init_23 : decode cX3_init 23 = .ok (.iconst 1, 1) := by decide +kernel
theorem dX3_init_24 : decode cX3_init 24 = .ok (.putfield 22, 3) := by decide +kernel
theorem dX3_init_27 : decode cX3_init 27 = .ok (.aload_n 0, 1) := by decide +kernel
theorem dX3_init_28 : decode cX3_init 28 = .ok (.iconst 4, 1) := by decide +kernel
theorem dX3_init_29 : decode cX3_init 29 = .ok (.putfield 25, 3) := by decide +kernel
theorem dX3_init_32 : decode cX3_init 32 = .ok (.return_, 1) := by decide +kernel
set_option maxRecDepth 20000 in
theorem ggX3_become_X3_putGlimpse : GoodIn wsX3_become wsX3_putGlimpse := goodIn_r _ [8, 9, 10, 11, 12, 13, 14, 15] (by decide +kernel) (by decide +kernel)
set_option maxRecDepth 20000 in
theorem gX3_become_X3_putGlimpse : GoodIn wsX3_become (wsV RX3 28 RX3 yX3_putGlimpse wsX3_putGlimpse) := goodIn_app (goodIn_of _ (by decide +kernel)) ggX3_become_X3_putGlimpse
theorem dX3_become_0 : decode cX3_become 0 = .ok (.aload_n 0, 1) := by decide +kernel
theorem dX3_become_1 : decode cX3_become 1 = .ok (.iload_n 1, 1) := by decide +kernel
theorem dX3_become_2 : decode cX3_become 2 = .ok (.putfield 19, 3) := by decide +kernel
theorem dX3_become_5 : decode cX3_become 5 = .ok (.aload_n 0, 1) := by decide +kernel
theorem dX3_become_6 : decode cX3_become 6 = .ok (.iload_n 2, 1) := by decide +kernel
theorem dX3_become_7 : decode cX3_become 7 = .ok (.putfield 22, 3) := by decide +kernel
theorem dX3_become_10 : decode cX3_become 10 = .ok (.aload_n 0, 1) := by decide +kernel
theorem dX3_become_11 : decode cX3_become 11 = .ok (.iconst 4, 1) := by decide +kernel
theorem dX3_become_12 : decode cX3_become 12 = .ok (.putfield 25, 3) := by decide +kernel
theorem dX3_become_15 : decode cX3_become 15 = .ok (.iconst 0, 1) := by decide +kernel
theorem dX3_become_16 : decode cX3_become 16 = .ok (.istore_n 3, 1) := by decide +kernel
theorem dX3_become_17 : decode cX3_become 17 = .ok (.iload_n 3, 1) := by decide +kernel
theorem dX3_become_18 : decode cX3_become 18 = .ok (.iload_n 2, 1) := by decide +kernel
theorem dX3_become_19 : decode cX3_become 19 = .ok (.if_icmp .ge 16, 3) := by decide +kernel
theorem dX3_become_22 : decode cX3_become 22 = .ok (.aload_n 0, 1) := by decide +kernel
theorem dX3_become_23 : decode cX3_become 23 = .ok (.iload_n 3, 1) := by decide +kernel
theorem dX3_become_24 : decode cX3_become 24 = .ok (.bipush (-9), 2) := by decide +kernel
theorem dX3_become_26 : decode cX3_become 26 = .ok (.invokevirtual 28, 3) := by decide +kernel
theorem dX3_become_29 : decode cX3_become 29 = .ok (.iinc 3 1, 3) := by decide +kernel
theorem dX3_become_32 : decode cX3_become 32 = .ok (.goto (-15), 3) := by decide +kernel
theorem dX3_become_35 : decode cX3_become 35 = .ok (.return_, 1) := by decide +kernel
theorem dX3_glimpseAt_0 : decode cX3_glimpseAt 0 = .ok (.aload_n 0, 1) := by decide +kernel
theorem dX3_glimpseAt_1 : decode cX3_glimpseAt 1 = .ok (.getfield 9, 3) := by decide +kernel
theorem dX3_glimpseAt_4 : decode cX3_glimpseAt 4 = .ok (.aload_n 0, 1) := by decide +kernel
theorem dX3_glimpseAt_5 : decode cX3_glimpseAt 5 = .ok (.getfield 15, 3) := by decide +kernel
theorem dX3_glimpseAt_8 : decode cX3_glimpseAt 8 = .ok (.iload_n 1, 1) := by decide +kernel
theorem dX3_glimpseAt_9 : decode cX3_glimpseAt 9 = .ok (.iadd, 1) := by decide +kernel
theorem dX3_glimpseAt_10 : decode cX3_glimpseAt 10 = .ok (.bipush 15, 2) := by decide +kernel
theorem dX3_glimpseAt_12 : decode cX3_glimpseAt 12 = .ok (.iand, 1) := by decide +kernel
theorem dX3_glimpseAt_13 : decode cX3_glimpseAt 13 = .ok (.iaload, 1) := by decide +kernel
theorem dX3_glimpseAt_14 : decode cX3_glimpseAt 14 = .ok (.ireturn, 1) := by decide +kernel
theorem dX3_putGlimpse_0 : decode cX3_putGlimpse 0 = .ok (.aload_n 0, 1) := by decide +kernel
theorem dX3_putGlimpse_1 : decode cX3_putGlimpse 1 = .ok (.getfield 9, 3) := by decide +kernel
theorem dX3_putGlimpse_4 : decode cX3_putGlimpse 4 = .ok (.aload_n 0, 1) := by decide +kernel
theorem dX3_putGlimpse_5 : decode cX3_putGlimpse 5 = .ok (.getfield 15, 3) := by decide +kernel
theorem dX3_putGlimpse_8 : decode cX3_putGlimpse 8 = .ok (.iload_n 1, 1) := by decide +kernel
theorem dX3_putGlimpse_9 : decode cX3_putGlimpse 9 = .ok (.iadd, 1) := by decide +kernel
theorem dX3_putGlimpse_10 : decode cX3_putGlimpse 10 = .ok (.bipush 15, 2) := by decide +kernel
theorem dX3_putGlimpse_12 : decode cX3_putGlimpse 12 = .ok (.iand, 1) := by decide +kernel
theorem dX3_putGlimpse_13 : decode cX3_putGlimpse 13 = .ok (.iload_n 2, 1) := by decide +kernel
theorem dX3_putGlimpse_14 : decode cX3_putGlimpse 14 = .ok (.iastore, 1) := by decide +kernel
theorem dX3_putGlimpse_15 : decode cX3_putGlimpse 15 = .ok (.return_, 1) := by decide +kernel
theorem dX3_copyFrom_0 : decode cX3_copyFrom 0 = .ok (.aload_n 0, 1) := by decide +kernel
theorem dX3_copyFrom_1 : decode cX3_copyFrom 1 = .ok (.aload_n 1, 1) := by decide +kernel
theorem dX3_copyFrom_2 : decode cX3_copyFrom 2 = .ok (.getfield 19, 3) := by decide +kernel
theorem dX3_copyFrom_5 : decode cX3_copyFrom 5 = .ok (.putfield 19, 3) := by decide +kernel
theorem dX3_copyFrom_8 : decode cX3_copyFrom 8 = .ok (.aload_n 0, 1) := by decide +kernel
theorem dX3_copyFrom_9 : decode cX3_copyFrom 9 = .ok (.aload_n 1, 1) := by decide +kernel
theorem dX3_copyFrom_10 : decode cX3_copyFrom 10 = .ok (.getfield 22, 3) := by decide +kernel
theorem dX3_copyFrom_13 : decode cX3_copyFrom 13 = .ok (.putfield 22, 3) := by decide +kernel
theorem dX3_copyFrom_16 : decode cX3_copyFrom 16 = .ok (.aload_n 0, 1) := by decide +kernel
theorem dX3_copyFrom_17 : decode cX3_copyFrom 17 = .ok (.aload_n 1, 1) := by decide +kernel
theorem dX3_copyFrom_18 : decode cX3_copyFrom 18 = .ok (.getfield 25, 3) := by decide +kernel
theorem dX3_copyFrom_21 : decode cX3_copyFrom 21 = .ok (.putfield 25, 3) := by decide +kernel
theorem dX3_copyFrom_24 : decode cX3_copyFrom 24 = .ok (.aload_n 0, 1) := by decide +kernel
theorem dX3_copyFrom_25 : decode cX3_copyFrom 25 = .ok (.aload_n 1, 1) := by decide +kernel
theorem dX3_copyFrom_26 : decode cX3_copyFrom 26 = .ok (.getfield 15, 3) := by decide +kernel
theorem dX3_copyFrom_29 : decode cX3_copyFrom 29 = .ok (.putfield 15, 3) := by decide +kernel
theorem dX3_copyFrom_32 : decode cX3_copyFrom 32 = .ok (.aload_n 1, 1) := by decide +kernel
theorem dX3_copyFrom_33 : decode cX3_copyFrom 33 = .ok (.getfield 9, 3) := by decide +kernel
theorem dX3_copyFrom_36 : decode cX3_copyFrom 36 = .ok (.iconst 0, 1) := by decide +kernel
theorem dX3_copyFrom_37 : decode cX3_copyFrom 37 = .ok (.aload_n 0, 1) := by decide +kernel
theorem dX3_copyFrom_38 : decode cX3_copyFrom 38 = .ok (.getfield 9, 3) := by decide +kernel
theorem dX3_copyFrom_41 : decode cX3_copyFrom 41 = .ok (.iconst 0, 1) := by decide +kernel
theorem dX3_copyFrom_42 : decode cX3_copyFrom 42 = .ok (.bipush 16, 2) := by decide +kernel
theorem dX3_copyFrom_44 : decode cX3_copyFrom 44 = .ok (.invokestatic 32, 3) := by decide +kernel
theorem dX3_copyFrom_47 : decode cX3_copyFrom 47 = .ok (.return_, 1) := by decide +kernel
set_option maxRecDepth 20000 in
theorem ggX3_becomeBehind_X3_become : GoodIn wsX3_becomeBehind wsX3_become := goodIn_r _ [6, 7, 1, 8, 9, 10, 11, 5, 12, 13, 14, 19, 20, 21, 22, 23] (by decide +kernel) (by decide +kernel)
set_option maxRecDepth 20000 in
theorem gX3_becomeBehind_X3_become : GoodIn wsX3_becomeBehind (wsV RX3 38 RX3 yX3_become wsX3_become) := goodIn_app (goodIn_of _ (by decide +kernel)) ggX3_becomeBehind_X3_become
set_option maxRecDepth 20000 in
theorem ggX3_becomeBehind_X3_glimpseAt : GoodIn wsX3_becomeBehind wsX3_glimpseAt := goodIn_r _ [18, 13, 14, 19, 20, 21, 22, 23] (by decide +kernel) (by decide +kernel)
set_option maxRecDepth 20000 in
theorem gX3_becomeBehind_X3_glimpseAt : GoodIn wsX3_becomeBehind (wsV RX3 41 RX3 yX3_glimpseAt wsX3_glimpseAt) := goodIn_app (goodIn_of _ (by decide +kernel)) ggX3_becomeBehind_X3_glimpseAt
set_option maxRecDepth 20000 in
theorem ggX3_becomeBehind_X3_putGlimpse : GoodIn wsX3_becomeBehind wsX3_putGlimpse := goodIn_r _ [12, 13, 14, 19, 20, 21, 22, 23] (by decide +kernel) (by decide +kernel)
set_option maxRecDepth 20000 in
theorem gX3_becomeBehind_X3_putGlimpse : GoodIn wsX3_becomeBehind (wsV RX3 28 RX3 yX3_putGlimpse wsX3_putGlimpse) := goodIn_app (goodIn_of _ (by decide +kernel)) ggX3_becomeBehind_X3_putGlimpse
theorem dX3_becomeBehind_0 : decode cX3_becomeBehind 0 = .ok (.aload_n 0, 1) := by decide +kernel
theorem dX3_becomeBehind_1 : decode cX3_becomeBehind 1 = .ok (.iconst 0, 1) := by decide +kernel
theorem dX3_becomeBehind_2 : decode cX3_becomeBehind 2 = .ok (.aload_n 1, 1) := by decide +kernel
theorem dX3_becomeBehind_3 : decode cX3_becomeBehind 3 = .ok (.getfield 22, 3) := by decide +kernel
theorem dX3_becomeBehind_6 : decode cX3_becomeBehind 6 = .ok (.iload_n 2, 1) := by decide +kernel
theorem dX3_becomeBehind_7 : decode cX3_becomeBehind 7 = .ok (.isub, 1) := by decide +kernel
theorem dX3_becomeBehind_8 : decode cX3_becomeBehind 8 = .ok (.invokevirtual 38, 3) := by decide +kernel
theorem dX3_becomeBehind_11 : decode cX3_becomeBehind 11 = .ok (.iconst 0, 1) := by decide +kernel
theorem dX3_becomeBehind_12 : decode cX3_becomeBehind 12 = .ok (.istore_n 3, 1) := by decide +kernel
theorem dX3_becomeBehind_13 : decode cX3_becomeBehind 13 = .ok (.iload_n 3, 1) := by decide +kernel
theorem dX3_becomeBehind_14 : decode cX3_becomeBehind 14 = .ok (.aload_n 0, 1) := by decide +kernel
theorem dX3_becomeBehind_15 : decode cX3_becomeBehind 15 = .ok (.getfield 22, 3) := by decide +kernel
theorem dX3_becomeBehind_18 : decode cX3_becomeBehind 18 = .ok (.if_icmp .ge 21, 3) := by decide +kernel
theorem dX3_becomeBehind_21 : decode cX3_becomeBehind 21 = .ok (.aload_n 0, 1) := by decide +kernel
theorem dX3_becomeBehind_22 : decode cX3_becomeBehind 22 = .ok (.iload_n 3, 1) := by decide +kernel
theorem dX3_becomeBehind_23 : decode cX3_becomeBehind 23 = .ok (.aload_n 1, 1) := by decide +kernel
theorem dX3_becomeBehind_24 : decode cX3_becomeBehind 24 = .ok (.iload_n 2, 1) := by decide +kernel
theorem dX3_becomeBehind_25 : decode cX3_becomeBehind 25 = .ok (.iload_n 3, 1) := by decide +kernel
theorem dX3_becomeBehind_26 : decode cX3_becomeBehind 26 = .ok (.iadd, 1) := by decide +kernel
theorem dX3_becomeBehind_27 : decode cX3_becomeBehind 27 = .ok (.invokevirtual 41, 3) := by decide +kernel
theorem dX3_becomeBehind_30 : decode cX3_becomeBehind 30 = .ok (.invokevirtual 28, 3) := by decide +kernel
theorem dX3_becomeBehind_33 : decode cX3_becomeBehind 33 = .ok (.iinc 3 1, 3) := by decide +kernel
theorem dX3_becomeBehind_36 : decode cX3_becomeBehind 36 = .ok (.goto (-23), 3) := by decide +kernel
theorem dX3_becomeBehind_39 : decode cX3_becomeBehind 39 = .ok (.return_, 1) := by decide +kernel
set_option maxRecDepth 20000 in
theorem ggX3_append_X3_glimpseAt : GoodIn wsX3_append wsX3_glimpseAt := goodIn_r _ [6, 7, 8, 13, 14, 15, 16, 17] (by decide +kernel) (by decide +kernel)
set_option maxRecDepth 20000 in
theorem gX3_append_X3_glimpseAt : GoodIn wsX3_append (wsV RX3 41 RX3 yX3_glimpseAt wsX3_glimpseAt) := goodIn_app (goodIn_of _ (by decide +kernel)) ggX3_append_X3_glimpseAt
set_option maxRecDepth 20000 in
theorem ggX3_append_X3_putGlimpse : GoodIn wsX3_append wsX3_putGlimpse := goodIn_r _ [12, 7, 8, 13, 14, 15, 16, 17] (by decide +kernel) (by decide +kernel)
set_option maxRecDepth 20000 in
theorem gX3_append_X3_putGlimpse : GoodIn wsX3_append (wsV RX3 28 RX3 yX3_putGlimpse wsX3_putGlimpse) := goodIn_app (goodIn_of _ (by decide +kernel)) ggX3_append_X3_putGlimpse
theorem dX3_append_0 : decode cX3_append 0 = .ok (.iconst 0, 1) := by decide +kernel
theorem dX3_append_1 : decode cX3_append 1 = .ok (.istore_n 2, 1) := by decide +kernel
theorem dX3_append_2 : decode cX3_append 2 = .ok (.iload_n 2, 1) := by decide +kernel
theorem dX3_append_3 : decode cX3_append 3 = .ok (.aload_n 1, 1) := by decide +kernel
theorem dX3_append_4 : decode cX3_append 4 = .ok (.getfield 22, 3) := by decide +kernel
theorem dX3_append_7 : decode cX3_append 7 = .ok (.if_icmp .ge 24, 3) := by decide +kernel
theorem dX3_append_10 : decode cX3_append 10 = .ok (.aload_n 0, 1) := by decide +kernel
theorem dX3_append_11 : decode cX3_append 11 = .ok (.aload_n 0, 1) := by decide +kernel
theorem dX3_append_12 : decode cX3_append 12 = .ok (.getfield 22, 3) := by decide +kernel
theorem dX3_append_15 : decode cX3_append 15 = .ok (.iload_n 2, 1) := by decide +kernel
theorem dX3_append_16 : decode cX3_append 16 = .ok (.iadd, 1) := by decide +kernel
theorem dX3_append_17 : decode cX3_append 17 = .ok (.aload_n 1, 1) := by decide +kernel
theorem dX3_append_18 : decode cX3_append 18 = .ok (.iload_n 2, 1) := by decide +kernel
theorem dX3_append_19 : decode cX3_append 19 = .ok (.invokevirtual 41, 3) := by decide +kernel
theorem dX3_append_22 : decode cX3_append 22 = .ok (.invokevirtual 28, 3) := by decide +kernel
theorem dX3_append_25 : decode cX3_append 25 = .ok (.iinc 2 1, 3) := by decide +kernel
theorem dX3_append_28 : decode cX3_append 28 = .ok (.goto (-26), 3) := by decide +kernel
theorem dX3_append_31 : decode cX3_append 31 = .ok (.aload_n 0, 1) := by decide +kernel
theorem dX3_append_32 : decode cX3_append 32 = .ok (.dup, 1) := by decide +kernel
theorem dX3_append_33 : decode cX3_append 33 = .ok (.getfield 22, 3) := by decide +kernel
theorem dX3_append_36 : decode cX3_append 36 = .ok (.aload_n 1, 1) := by decide +kernel
theorem dX3_append_37 : decode cX3_append 37 = .ok (.getfield 22, 3) := by decide +kernel
theorem dX3_append_40 : decode cX3_append 40 = .ok (.iadd, 1) := by decide +kernel
theorem dX3_append_41 : decode cX3_append 41 = .ok (.putfield 22, 3) := by decide +kernel
theorem dX3_append_44 : decode cX3_append 44 = .ok (.return_, 1) := by decide +kernel
set_option maxRecDepth 20000 in
theorem ggX3_turnAbout_X3_glimpseAt : GoodIn wsX3_turnAbout wsX3_glimpseAt := goodIn_r _ [6, 7, 8, 13, 14, 15, 16, 17] (by decide +kernel) (by decide +kernel)
set_option maxRecDepth 20000 in
theorem gX3_turnAbout_X3_glimpseAt : GoodIn wsX3_turnAbout (wsV RX3 41 RX3 yX3_glimpseAt wsX3_glimpseAt) := goodIn_app (goodIn_of _ (by decide +kernel)) ggX3_turnAbout_X3_glimpseAt
set_option maxRecDepth 20000 in
theorem ggX3_turnAbout_X3_putGlimpse : GoodIn wsX3_turnAbout wsX3_putGlimpse := goodIn_r _ [12, 7, 8, 13, 14, 15, 16, 17] (by decide +kernel) (by decide +kernel)
set_option maxRecDepth 20000 in
theorem gX3_turnAbout_X3_putGlimpse : GoodIn wsX3_turnAbout (wsV RX3 28 RX3 yX3_putGlimpse wsX3_putGlimpse) := goodIn_app (goodIn_of _ (by decide +kernel)) ggX3_turnAbout_X3_putGlimpse
theorem dX3_turnAbout_0 : decode cX3_turnAbout 0 = .ok (.iconst 0, 1) := by decide +kernel
theorem dX3_turnAbout_1 : decode cX3_turnAbout 1 = .ok (.istore_n 1, 1) := by decide +kernel
theorem dX3_turnAbout_2 : decode cX3_turnAbout 2 = .ok (.aload_n 0, 1) := by decide +kernel
theorem dX3_turnAbout_3 : decode cX3_turnAbout 3 = .ok (.getfield 22, 3) := by decide +kernel
theorem dX3_turnAbout_6 : decode cX3_turnAbout 6 = .ok (.iconst 1, 1) := by decide +kernel
theorem dX3_turnAbout_7 : decode cX3_turnAbout 7 = .ok (.isub, 1) := by decide +kernel
theorem dX3_turnAbout_8 : decode cX3_turnAbout 8 = .ok (.istore_n 2, 1) := by decide +kernel
theorem dX3_turnAbout_9 : decode cX3_turnAbout 9 = .ok (.iload_n 1, 1) := by decide +kernel
theorem dX3_turnAbout_10 : decode cX3_turnAbout 10 = .ok (.iload_n 2, 1) := by decide +kernel
theorem dX3_turnAbout_11 : decode cX3_turnAbout 11 = .ok (.if_icmp .ge 34, 3) := by decide +kernel
theorem dX3_turnAbout_14 : decode cX3_turnAbout 14 = .ok (.aload_n 0, 1) := by decide +kernel
theorem dX3_turnAbout_15 : decode cX3_turnAbout 15 = .ok (.iload_n 1, 1) := by decide +kernel
theorem dX3_turnAbout_16 : decode cX3_turnAbout 16 = .ok (.invokevirtual 41, 3) := by decide +kernel
theorem dX3_turnAbout_19 : decode cX3_turnAbout 19 = .ok (.istore_n 3, 1) := by decide +kernel
theorem dX3_turnAbout_20 : decode cX3_turnAbout 20 = .ok (.aload_n 0, 1) := by decide +kernel
theorem dX3_turnAbout_21 : decode cX3_turnAbout 21 = .ok (.iload_n 1, 1) := by decide +kernel
theorem dX3_turnAbout_22 : decode cX3_turnAbout 22 = .ok (.aload_n 0, 1) := by decide +kernel
theorem dX3_turnAbout_23 : decode cX3_turnAbout 23 = .ok (.iload_n 2, 1) := by decide +kernel
theorem dX3_turnAbout_24 : decode cX3_turnAbout 24 = .ok (.invokevirtual 41, 3) := by decide +kernel
theorem dX3_turnAbout_27 : decode cX3_turnAbout 27 = .ok (.invokevirtual 28, 3) := by decide +kernel
theorem dX3_turnAbout_30 : decode cX3_turnAbout 30 = .ok (.aload_n 0, 1) := by decide +kernel
theorem dX3_turnAbout_31 : decode cX3_turnAbout 31 = .ok (.iload_n 2, 1) := by decide +kernel
theorem dX3_turnAbout_32 : decode cX3_turnAbout 32 = .ok (.iload_n 3, 1) := by decide +kernel
theorem dX3_turnAbout_33 : decode cX3_turnAbout 33 = .ok (.invokevirtual 28, 3) := by decide +kernel
theorem dX3_turnAbout_36 : decode cX3_turnAbout 36 = .ok (.iinc 1 1, 3) := by decide +kernel
theorem dX3_turnAbout_39 : decode cX3_turnAbout 39 = .ok (.iinc 2 (-1), 3) := by decide +kernel
theorem dX3_turnAbout_42 : decode cX3_turnAbout 42 = .ok (.goto (-33), 3) := by decide +kernel
theorem dX3_turnAbout_45 : decode cX3_turnAbout 45 = .ok (.return_, 1) := by decide +kernel
theorem dX3_placeTold_0 : decode cX3_placeTold 0 = .ok (.aload_n 0, 1) := by decide +kernel
theorem dX3_placeTold_1 : decode cX3_placeTold 1 = .ok (.getfield 25, 3) := by decide +kernel
theorem dX3_placeTold_4 : decode cX3_placeTold 4 = .ok (.iconst 4, 1) := by decide +kernel
theorem dX3_placeTold_5 : decode cX3_placeTold 5 = .ok (.if_icmp .ne 8, 3) := by decide +kernel
theorem dX3_placeTold_8 : decode cX3_placeTold 8 = .ok (.bipush (-9), 2) := by decide +kernel
theorem dX3_placeTold_10 : decode cX3_placeTold 10 = .ok (.goto 7, 3) := by decide +kernel
theorem dX3_placeTold_13 : decode cX3_placeTold 13 = .ok (.aload_n 0, 1) := by decide +kernel
theorem dX3_placeTold_14 : decode cX3_placeTold 14 = .ok (.getfield 25, 3) := by decide +kernel
theorem dX3_placeTold_17 : decode cX3_placeTold 17 = .ok (.ireturn, 1) := by decide +kernel
set_option maxRecDepth 20000 in
theorem ggX3_last_X3_glimpseAt : GoodIn wsX3_last wsX3_glimpseAt := goodIn_r _ [6, 7, 8, 9, 10, 11, 12, 13] (by decide +kernel) (by decide +kernel)
set_option maxRecDepth 20000 in
theorem gX3_last_X3_glimpseAt : GoodIn wsX3_last (wsV RX3 41 RX3 yX3_glimpseAt wsX3_glimpseAt) := goodIn_app (goodIn_of _ (by decide +kernel)) ggX3_last_X3_glimpseAt
theorem dX3_last_0 : decode cX3_last 0 = .ok (.aload_n 0, 1) := by decide +kernel
theorem dX3_last_1 : decode cX3_last 1 = .ok (.aload_n 0, 1) := by decide +kernel
theorem dX3_last_2 : decode cX3_last 2 = .ok (.getfield 22, 3) := by decide +kernel
theorem dX3_last_5 : decode cX3_last 5 = .ok (.iconst 1, 1) := by decide +kernel
theorem dX3_last_6 : decode cX3_last 6 = .ok (.isub, 1) := by decide +kernel
theorem dX3_last_7 : decode cX3_last 7 = .ok (.invokevirtual 41, 3) := by decide +kernel
theorem dX3_last_10 : decode cX3_last 10 = .ok (.ireturn, 1) := by decide +kernel
set_option maxRecDepth 20000 in
theorem ggX3_aheadOfLast_X3_glimpseAt : GoodIn wsX3_aheadOfLast wsX3_glimpseAt := goodIn_r _ [6, 7, 8, 9, 10, 11, 12, 13] (by decide +kernel) (by decide +kernel)
set_option maxRecDepth 20000 in
theorem gX3_aheadOfLast_X3_glimpseAt : GoodIn wsX3_aheadOfLast (wsV RX3 41 RX3 yX3_glimpseAt wsX3_glimpseAt) := goodIn_app (goodIn_of _ (by decide +kernel)) ggX3_aheadOfLast_X3_glimpseAt
theorem dX3_aheadOfLast_0 : decode cX3_aheadOfLast 0 = .ok (.aload_n 0, 1) := by decide +kernel
theorem dX3_aheadOfLast_1 : decode cX3_aheadOfLast 1 = .ok (.getfield 22, 3) := by decide +kernel
theorem dX3_aheadOfLast_4 : decode cX3_aheadOfLast 4 = .ok (.iconst 2, 1) := by decide +kernel
theorem dX3_aheadOfLast_5 : decode cX3_aheadOfLast 5 = .ok (.if_icmp .ge 8, 3) := by decide +kernel
theorem dX3_aheadOfLast_8 : decode cX3_aheadOfLast 8 = .ok (.bipush (-9), 2) := by decide +kernel
theorem dX3_aheadOfLast_10 : decode cX3_aheadOfLast 10 = .ok (.goto 13, 3) := by decide +kernel
theorem dX3_aheadOfLast_13 : decode cX3_aheadOfLast 13 = .ok (.aload_n 0, 1) := by decide +kernel
theorem dX3_aheadOfLast_14 : decode cX3_aheadOfLast 14 = .ok (.aload_n 0, 1) := by decide +kernel
theorem dX3_aheadOfLast_15 : decode cX3_aheadOfLast 15 = .ok (.getfield 22, 3) := by decide +kernel
theorem dX3_aheadOfLast_18 : decode cX3_aheadOfLast 18 = .ok (.iconst 2, 1) := by decide +kernel
theorem dX3_aheadOfLast_19 : decode cX3_aheadOfLast 19 = .ok (.isub, 1) := by decide +kernel
theorem dX3_aheadOfLast_20 : decode cX3_aheadOfLast 20 = .ok (.invokevirtual 41, 3) := by decide +kernel
theorem dX3_aheadOfLast_23 : decode cX3_aheadOfLast 23 = .ok (.ireturn, 1) := by decide +kernel
theorem dX3_movesOn_0 : decode cX3_movesOn 0 = .ok (.aload_n 0, 1) := by decide +kernel
theorem dX3_movesOn_1 : decode cX3_movesOn 1 = .ok (.getfield 19, 3) := by decide +kernel
theorem dX3_movesOn_4 : decode cX3_movesOn 4 = .ok (.lookupswitch 52 #[(1, 28), (2, 40)], 28) := by decide +kernel
theorem dX3_movesOn_32 : decode cX3_movesOn 32 = .ok (.iload_n 1, 1) := by decide +kernel
theorem dX3_movesOn_33 : decode cX3_movesOn 33 = .ok (.iconst 2, 1) := by decide +kernel
theorem dX3_movesOn_34 : decode cX3_movesOn 34 = .ok (.irem, 1) := by decide +kernel
theorem dX3_movesOn_35 : decode cX3_movesOn 35 = .ok (.ifCond .ne 7, 3) := by decide +kernel
theorem dX3_movesOn_38 : decode cX3_movesOn 38 = .ok (.iconst 1, 1) := by decide +kernel
theorem dX3_movesOn_39 : decode cX3_movesOn 39 = .ok (.goto 4, 3) := by decide +kernel
theorem dX3_movesOn_42 : decode cX3_movesOn 42 = .ok (.iconst 0, 1) := by decide +kernel
theorem dX3_movesOn_43 : decode cX3_movesOn 43 = .ok (.ireturn, 1) := by decide +kernel
theorem dX3_movesOn_44 : decode cX3_movesOn 44 = .ok (.iload_n 1, 1) := by decide +kernel
theorem dX3_movesOn_45 : decode cX3_movesOn 45 = .ok (.iconst 4, 1) := by decide +kernel
theorem dX3_movesOn_46 : decode cX3_movesOn 46 = .ok (.irem, 1) := by decide +kernel
theorem dX3_movesOn_47 : decode cX3_movesOn 47 = .ok (.ifCond .ne 7, 3) := by decide +kernel
theorem dX3_movesOn_50 : decode cX3_movesOn 50 = .ok (.iconst 1, 1) := by decide +kernel
theorem dX3_movesOn_51 : decode cX3_movesOn 51 = .ok (.goto 4, 3) := by decide +kernel
theorem dX3_movesOn_54 : decode cX3_movesOn 54 = .ok (.iconst 0, 1) := by decide +kernel
theorem dX3_movesOn_55 : decode cX3_movesOn 55 = .ok (.ireturn, 1) := by decide +kernel
theorem dX3_movesOn_56 : decode cX3_movesOn 56 = .ok (.iconst 1, 1) := by decide +kernel
theorem dX3_movesOn_57 : decode cX3_movesOn 57 = .ok (.ireturn, 1) := by decide +kernel
set_option maxRecDepth 20000 in
theorem ggX3_passDay_X3_movesOn : GoodIn wsX3_passDay wsX3_movesOn := goodIn_r _ [7, 8, 17, 18, 19, 20, 21] (by decide +kernel) (by decide +kernel)
set_option maxRecDepth 20000 in
theorem gX3_passDay_X3_movesOn : GoodIn wsX3_passDay (wsV RX3 45 RX3 yX3_movesOn wsX3_movesOn) := goodIn_app (goodIn_of _ (by decide +kernel)) ggX3_passDay_X3_movesOn
set_option maxRecDepth 20000 in
theorem ggX3_passDay_X11_glimpseOf : GoodIn wsX3_passDay wsX11_glimpseOf := goodIn_r _ [11] (by decide +kernel) (by decide +kernel)
set_option maxRecDepth 20000 in
theorem gX3_passDay_X11_glimpseOf_n49 : GoodIn wsX3_passDay (wsX11_glimpseOf) := ggX3_passDay_X11_glimpseOf
set_option maxRecDepth 20000 in
theorem ggX3_passDay_X3_putGlimpse : GoodIn wsX3_passDay wsX3_putGlimpse := goodIn_r _ [15, 16, 1, 17, 18, 19, 20, 21] (by decide +kernel) (by decide +kernel)
set_option maxRecDepth 20000 in
theorem gX3_passDay_X3_putGlimpse : GoodIn wsX3_passDay (wsV RX3 28 RX3 yX3_putGlimpse wsX3_putGlimpse) := goodIn_app (goodIn_of _ (by decide +kernel)) ggX3_passDay_X3_putGlimpse
theorem dX3_passDay_0 : decode cX3_passDay 0 = .ok (.aload_n 0, 1) := by decide +kernel
theorem dX3_passDay_1 : decode cX3_passDay 1 = .ok (.iload_n 1, 1) := by decide +kernel
theorem dX3_passDay_2 : decode cX3_passDay 2 = .ok (.invokevirtual 45, 3) := by decide +kernel
theorem dX3_passDay_5 : decode cX3_passDay 5 = .ok (.ifCond .ne 4, 3) := by decide +kernel
theorem dX3_passDay_8 : decode cX3_passDay 8 = .ok (.return_, 1) := by decide +kernel
theorem dX3_passDay_9 : decode cX3_passDay 9 = .ok (.aload_n 0, 1) := by decide +kernel
theorem dX3_passDay_10 : decode cX3_passDay 10 = .ok (.aload_n 0, 1) := by decide +kernel
theorem dX3_passDay_11 : decode cX3_passDay 11 = .ok (.getfield 15, 3) := by decide +kernel
theorem dX3_passDay_14 : decode cX3_passDay 14 = .ok (.iconst 1, 1) := by decide +kernel
theorem dX3_passDay_15 : decode cX3_passDay 15 = .ok (.isub, 1) := by decide +kernel
theorem dX3_passDay_16 : decode cX3_passDay 16 = .ok (.bipush 15, 2) := by decide +kernel
theorem dX3_passDay_18 : decode cX3_passDay 18 = .ok (.iand, 1) := by decide +kernel
theorem dX3_passDay_19 : decode cX3_passDay 19 = .ok (.putfield 15, 3) := by decide +kernel
theorem dX3_passDay_22 : decode cX3_passDay 22 = .ok (.aload_n 0, 1) := by decide +kernel
theorem dX3_passDay_23 : decode cX3_passDay 23 = .ok (.iconst 0, 1) := by decide +kernel
theorem dX3_passDay_24 : decode cX3_passDay 24 = .ok (.aload_n 0, 1) := by decide +kernel
theorem dX3_passDay_25 : decode cX3_passDay 25 = .ok (.getfield 25, 3) := by decide +kernel
theorem dX3_passDay_28 : decode cX3_passDay 28 = .ok (.iconst 4, 1) := by decide +kernel
theorem dX3_passDay_29 : decode cX3_passDay 29 = .ok (.if_icmp .ne 8, 3) := by decide +kernel
theorem dX3_passDay_32 : decode cX3_passDay 32 = .ok (.bipush (-9), 2) := by decide +kernel
theorem dX3_passDay_34 : decode cX3_passDay 34 = .ok (.goto 11, 3) := by decide +kernel
theorem dX3_passDay_37 : decode cX3_passDay 37 = .ok (.aload_n 0, 1) := by decide +kernel
theorem dX3_passDay_38 : decode cX3_passDay 38 = .ok (.getfield 25, 3) := by decide +kernel
theorem dX3_passDay_41 : decode cX3_passDay 41 = .ok (.iload_n 1, 1) := by decide +kernel
theorem dX3_passDay_42 : decode cX3_passDay 42 = .ok (.invokestatic 49, 3) := by decide +kernel
theorem dX3_passDay_45 : decode cX3_passDay 45 = .ok (.invokevirtual 28, 3) := by decide +kernel
theorem dX3_passDay_48 : decode cX3_passDay 48 = .ok (.return_, 1) := by decide +kernel
theorem dX4_init_0 : decode cX4_init 0 = .ok (.aload_n 0, 1) := by decide +kernel
theorem dX4_init_1 : decode cX4_init 1 = .ok (.invokespecial 3, 3) := by decide +kernel
theorem dX4_init_4 : decode cX4_init 4 = .ok (.aload_n 0, 1) := by decide +kernel
theorem dX4_init_5 : decode cX4_init 5 = .ok (.sipush 200, 3) := by decide +kernel
theorem dX4_init_8 : decode cX4_init 8 = .ok (.newarray .int, 2) := by decide +kernel
theorem dX4_init_10 : decode cX4_init 10 = .ok (.putfield 9, 3) := by decide +kernel
theorem dX4_init_13 : decode cX4_init 13 = .ok (.aload_n 0, 1) := by decide +kernel
theorem dX4_init_14 : decode cX4_init 14 = .ok (.iconst 0, 1) := by decide +kernel
theorem dX4_init_15 : decode cX4_init 15 = .ok (.putfield 15, 3) := by decide +kernel
theorem dX4_init_18 : decode cX4_init 18 = .ok (.aload_n 0, 1) := by decide +kernel
theorem dX4_init_19 : decode cX4_init 19 = .ok (.iconst 0, 1) := by decide +kernel
theorem dX4_init_20 : decode cX4_init 20 = .ok (.putfield 19, 3) := by decide +kernel
theorem dX4_init_23 : decode cX4_init 23 = .ok (.aload_n 0, 1) := by decide +kernel
theorem dX4_init_24 : decode cX4_init 24 = .ok (.iconst 0, 1) := by decide +kernel
theorem dX4_init_25 : decode cX4_init 25 = .ok (.putfield 22, 3) := by decide +kernel
theorem dX4_init_28 : decode cX4_init 28 = .ok (.aload_n 0, 1) := by decide +kernel
theorem dX4_init_29 : decode cX4_init 29 = .ok (.iconst (-1), 1) := by decide +kernel
theorem dX4_init_30 : decode cX4_init 30 = .ok (.putfield 25, 3) := by decide +kernel
theorem dX4_init_33 : decode cX4_init 33 = .ok (.return_, 1) := by decide +kernel
theorem dX4_take_0 : decode cX4_take 0 = .ok (.iconst 0, 1) := by decide +kernel
theorem dX4_take_1 : decode cX4_take 1 = .ok (.istore 4, 2) := by decide +kernel
theorem dX4_take_3 : decode cX4_take 3 = .ok (.iload 4, 2) := by decide +kernel
theorem dX4_take_5 : decode cX4_take 5 = .ok (.iload_n 3, 1) := by decide +kernel
theorem dX4_take_6 : decode cX4_take 6 = .ok (.if_icmp .ge 40, 3) := by decide +kernel
theorem dX4_take_9 : decode cX4_take 9 = .ok (.aload_n 0, 1) := by decide +kernel
theorem dX4_take_10 : decode cX4_take 10 = .ok (.getfield 9, 3) := by decide +kernel
theorem dX4_take_13 : decode cX4_take 13 = .ok (.aload_n 0, 1) := by decide +kernel
theorem dX4_take_14 : decode cX4_take 14 = .ok (.getfield 15, 3) := by decide +kernel
theorem dX4_take_17 : decode cX4_take 17 = .ok (.lload_n 1, 1) := by decide +kernel
theorem dX4_take_18 : decode cX4_take 18 = .ok (.bipush 8, 2) := by decide +kernel
theorem dX4_take_20 : decode cX4_take 20 = .ok (.iload 4, 2) := by decide +kernel
theorem dX4_take_22 : decode cX4_take 22 = .ok (.imul, 1) := by decide +kernel
theorem dX4_take_23 : decode cX4_take 23 = .ok (.lushr, 1) := by decide +kernel
theorem dX4_take_24 : decode cX4_take 24 = .ok (.l2i, 1) := by decide +kernel
theorem dX4_take_25 : decode cX4_take 25 = .ok (.sipush 255, 3) := by decide +kernel
theorem dX4_take_28 : decode cX4_take 28 = .ok (.iand, 1) := by decide +kernel
theorem dX4_take_29 : decode cX4_take 29 = .ok (.iastore, 1) := by decide +kernel
theorem dX4_take_30 : decode cX4_take 30 = .ok (.aload_n 0, 1) := by decide +kernel
theorem dX4_take_31 : decode cX4_take 31 = .ok (.dup, 1) := by decide +kernel
theorem dX4_take_32 : decode cX4_take 32 = .ok (.getfield 15, 3) := by decide +kernel
theorem dX4_take_35 : decode cX4_take 35 = .ok (.iconst 1, 1) := by decide +kernel
theorem dX4_take_36 : decode cX4_take 36 = .ok (.iadd, 1) := by decide +kernel
theorem dX4_take_37 : decode cX4_take 37 = .ok (.putfield 15, 3) := by decide +kernel
theorem dX4_take_40 : decode cX4_take 40 = .ok (.iinc 4 1, 3) := by decide +kernel
theorem dX4_take_43 : decode cX4_take 43 = .ok (.goto (-40), 3) := by decide +kernel
theorem dX4_take_46 : decode cX4_take 46 = .ok (.return_, 1) := by decide +kernel
set_option maxRecDepth 20000 in
theorem ggX4_readInto_X4_look : GoodIn wsX4_readInto wsX4_look := goodIn_r _ [8, 1, 3, 9, 10, 138, 139, 140, 141, 142] (by decide +kernel) (by decide +kernel)
set_option maxRecDepth 20000 in
theorem gX4_readInto_X4_look : GoodIn wsX4_readInto (wsV RX4 28 RX4 yX4_look wsX4_look) := goodIn_app (goodIn_of _ (by decide +kernel)) ggX4_readInto_X4_look
set_option maxRecDepth 20000 in
theorem ggX4_readInto_X4_readOne : GoodIn wsX4_readInto wsX4_readOne := goodIn_r _ [14, 15, 16, 17, 18, 7, 19, 20, 21, 22, 23, 1, 3, 9, 4, 5, 6, 8, 10, 24, 25, 26, 27, 28, 29, 30, 31, 32, 33, 34, 35, 36, 37, 38, 39, 40, 41, 42, 43, 44, 45, 46, 47, 48, 49, 50, 51, 52, 53, 54, 55, 56, 57, 58, 59, 60, 61, 62, 63, 64, 65, 66, 67, 68, 69, 70, 71, 72, 73, 74, 75, 76, 77, 78, 79, 80, 81, 82, 83, 84, 85, 86, 87, 2, 88, 89, 90, 91, 92, 93, 94, 95, 96, 97, 98, 99, 100, 101, 102, 103, 104, 105, 106, 107, 108, 109, 110, 111, 112, 113, 114, 115, 116, 117, 118, 119, 120, 121, 122, 123, 124, 125, 126, 127, 128, 129, 130, 131, 132, 133, 134, 135, 136, 137, 143, 144, 145, 146, 147, 148, 138, 139, 140, 141, 142, 149, 150, 151, 152, 153] (by decide +kernel) (by decide +kernel)
set_option maxRecDepth 20000 in
theorem gX4_readInto_X4_readOne : GoodIn wsX4_readInto (wsV RX4 31 RX4 yX4_readOne wsX4_readOne) := goodIn_app (goodIn_of _ (by decide +kernel)) ggX4_readInto_X4_readOne
theorem dX4_readInto_0 : decode cX4_readInto 0 = .ok (.aload_n 0, 1) := by decide +kernel
theorem dX4_readInto_1 : decode cX4_readInto 1 = .ok (.iconst 0, 1) := by decide +kernel
theorem dX4_readInto_2 : decode cX4_readInto 2 = .ok (.putfield 19, 3) := by decide +kernel
theorem dX4_readInto_5 : decode cX4_readInto 5 = .ok (.aload_n 0, 1) := by decide +kernel
theorem dX4_readInto_6 : decode cX4_readInto 6 = .ok (.iconst (-1), 1) := by decide +kernel
theorem dX4_readInto_7 : decode cX4_readInto 7 = .ok (.putfield 25, 3) := by decide +kernel
theorem dX4_readInto_10 : decode cX4_readInto 10 = .ok (.aload_n 0, 1) := by decide +kernel
theorem dX4_readInto_11 : decode cX4_readInto 11 = .ok (.invokevirtual 28, 3) := by decide +kernel
theorem dX4_readInto_14 : decode cX4_readInto 14 = .ok (.iconst 0, 1) := by decide +kernel
theorem dX4_readInto_15 : decode cX4_readInto 15 = .ok (.istore_n 2, 1) := by decide +kernel
theorem dX4_readInto_16 : decode cX4_readInto 16 = .ok (.iload_n 2, 1) := by decide +kernel
theorem dX4_readInto_17 : decode cX4_readInto 17 = .ok (.sipush 200, 3) := by decide +kernel
theorem dX4_readInto_20 : decode cX4_readInto 20 = .ok (.if_icmp .ge 36, 3) := by decide +kernel
theorem dX4_readInto_23 : decode cX4_readInto 23 = .ok (.aload_n 0, 1) := by decide +kernel
theorem dX4_readInto_24 : decode cX4_readInto 24 = .ok (.getfield 19, 3) := by decide +kernel
theorem dX4_readInto_27 : decode cX4_readInto 27 = .ok (.aload_n 0, 1) := by decide +kernel
theorem dX4_readInto_28 : decode cX4_readInto 28 = .ok (.getfield 15, 3) := by decide +kernel
theorem dX4_readInto_31 : decode cX4_readInto 31 = .ok (.if_icmp .ge 25, 3) := by decide +kernel
theorem dX4_readInto_34 : decode cX4_readInto 34 = .ok (.aload_n 0, 1) := by decide +kernel
theorem dX4_readInto_35 : decode cX4_readInto 35 = .ok (.getfield 25, 3) := by decide +kernel
theorem dX4_readInto_38 : decode cX4_readInto 38 = .ok (.ifCond .ge 18, 3) := by decide +kernel
theorem dX4_readInto_41 : decode cX4_readInto 41 = .ok (.aload_n 0, 1) := by decide +kernel
theorem dX4_readInto_42 : decode cX4_readInto 42 = .ok (.aload_n 1, 1) := by decide +kernel
theorem dX4_readInto_43 : decode cX4_readInto 43 = .ok (.invokevirtual 31, 3) := by decide +kernel
theorem dX4_readInto_46 : decode cX4_readInto 46 = .ok (.aload_n 0, 1) := by decide +kernel
theorem dX4_readInto_47 : decode cX4_readInto 47 = .ok (.invokevirtual 28, 3) := by decide +kernel
theorem dX4_readInto_50 : decode cX4_readInto 50 = .ok (.iinc 2 1, 3) := by decide +kernel
theorem dX4_readInto_53 : decode cX4_readInto 53 = .ok (.goto (-37), 3) := by decide +kernel
theorem dX4_readInto_56 : decode cX4_readInto 56 = .ok (.aload_n 0, 1) := by decide +kernel
theorem dX4_readInto_57 : decode cX4_readInto 57 = .ok (.iconst 0, 1) := by decide +kernel
theorem dX4_readInto_58 : decode cX4_readInto 58 = .ok (.putfield 15, 3) := by decide +kernel
theorem dX4_readInto_61 : decode cX4_readInto 61 = .ok (.aload_n 0, 1) := by decide +kernel
theorem dX4_readInto_62 : decode cX4_readInto 62 = .ok (.getfield 25, 3) := by decide +kernel
theorem dX4_readInto_65 : decode cX4_readInto 65 = .ok (.ireturn, 1) := by decide +kernel
set_option maxRecDepth 20000 in
theorem ggX4_readOne_X4_readKind : GoodIn wsX4_readOne wsX4_readKind := goodIn_r _ [6, 7, 8, 9, 5, 10, 11, 12, 13, 14, 15, 16, 17, 18, 19, 20, 21, 22, 23, 24, 25, 26, 27, 28, 29, 30, 31, 32, 33, 34, 35, 36, 37, 38, 39, 40, 41, 42, 43, 44, 45, 46, 47, 48, 49, 50, 51, 52, 53, 54, 55, 56, 57, 58, 59, 60, 61, 62, 63, 64, 65, 66, 67, 140, 141, 142, 143, 144] (by decide +kernel) (by decide +kernel)
set_option maxRecDepth 20000 in
theorem gX4_readOne_X4_readKind : GoodIn wsX4_readOne (wsV RX4 35 RX4 yX4_readKind wsX4_readKind) := goodIn_app (goodIn_of _ (by decide +kernel)) ggX4_readOne_X4_readKind
set_option maxRecDepth 20000 in
theorem ggX4_readOne_X4_readPane : GoodIn wsX4_readOne wsX4_readPane := goodIn_r _ [71, 72, 73, 74, 75, 76, 77, 78, 79, 80, 81, 5, 82, 83, 18, 84, 85, 86, 87, 11, 12, 13, 14, 15, 16, 17, 88, 89, 90, 91, 92, 93, 94, 95, 96, 97, 98, 99, 100, 101, 102, 103, 104, 105, 106, 7, 8, 9, 10, 19, 20, 21, 22, 23, 24, 25, 26, 27, 28, 29, 30, 31, 32, 33, 34, 35, 36, 37, 38, 39, 40, 41, 42, 43, 44, 45, 46, 47, 48, 49, 50, 51, 52, 53, 54, 55, 56, 57, 58, 59, 60, 61, 62, 63, 64, 65, 66, 67, 145, 146, 147, 148, 149, 134, 135, 136, 137, 138, 139, 140, 141, 142, 143, 144] (by decide +kernel) (by decide +kernel)
set_option maxRecDepth 20000 in
theorem gX4_readOne_X4_readPane : GoodIn wsX4_readOne (wsV RX4 39 RX4 yX4_readPane wsX4_readPane) := goodIn_app (goodIn_of _ (by decide +kernel)) ggX4_readOne_X4_readPane
set_option maxRecDepth 20000 in
theorem ggX4_readOne_X4_isWord : GoodIn wsX4_readOne wsX4_isWord := goodIn_r _ [10, 11, 12, 13, 14, 15, 16, 5, 17, 18, 19, 20, 21, 22, 23, 24, 25, 26, 27, 28, 29, 30, 31, 32, 33, 34, 35, 36, 37, 38, 39, 40, 41, 42, 43, 44, 45, 46, 47, 48, 49, 50, 51, 52, 53, 54, 55, 56, 57, 58, 59, 60, 61, 62, 63, 64, 65, 66, 67, 140, 141, 142, 143, 144] (by decide +kernel) (by decide +kernel)
set_option maxRecDepth 20000 in
theorem gX4_readOne_X4_isWord : GoodIn wsX4_readOne (wsV RX4 45 RX4 yX4_isWord wsX4_isWord) := goodIn_app (goodIn_of _ (by decide +kernel)) ggX4_readOne_X4_isWord
set_option maxRecDepth 20000 in
theorem ggX4_readOne_X4_readView : GoodIn wsX4_readOne wsX4_readView := goodIn_r _ [110, 111, 84, 85, 86, 5, 87, 11, 12, 13, 18, 14, 15, 16, 17, 79, 80, 81, 82, 83, 112, 113, 114, 115, 7, 8, 9, 10, 19, 20, 21, 22, 23, 24, 25, 26, 27, 28, 29, 30, 31, 32, 33, 34, 35, 36, 37, 38, 39, 40, 41, 42, 43, 44, 45, 46, 47, 48, 49, 50, 51, 52, 53, 54, 55, 56, 57, 58, 59, 60, 61, 62, 63, 64, 65, 66, 67, 116, 117, 118, 119, 120, 121, 122, 123, 124, 125, 126, 134, 135, 136, 137, 138, 139, 140, 141, 142, 143, 144] (by decide +kernel) (by decide +kernel)
set_option maxRecDepth 20000 in
theorem gX4_readOne_X4_readView : GoodIn wsX4_readOne (wsV RX4 49 RX4 yX4_readView wsX4_readView) := goodIn_app (goodIn_of _ (by decide +kernel)) ggX4_readOne_X4_readView
set_option maxRecDepth 20000 in
theorem ggX4_readOne_X4_readLove : GoodIn wsX4_readOne wsX4_readLove := goodIn_r _ [130, 131, 84, 85, 86, 5, 87, 11, 12, 13, 18, 14, 15, 16, 17, 79, 80, 81, 82, 83, 132, 125, 133, 134, 135, 136, 137, 138, 139, 140, 141, 142, 143, 144] (by decide +kernel) (by decide +kernel)
set_option maxRecDepth 20000 in
theorem gX4_readOne_X4_readLove : GoodIn wsX4_readOne (wsV RX4 54 RX4 yX4_readLove wsX4_readLove) := goodIn_app (goodIn_of _ (by decide +kernel)) ggX4_readOne_X4_readLove
set_option maxRecDepth 20000 in
theorem ggX4_readOne_X4_readNumber : GoodIn wsX4_readOne wsX4_readNumber := goodIn_r _ [87, 11, 12, 13, 18, 14, 15, 16, 5, 17, 79, 80, 81, 82, 83, 140, 141, 142, 143, 144] (by decide +kernel) (by decide +kernel)
set_option maxRecDepth 20000 in
theorem gX4_readOne_X4_readNumber : GoodIn wsX4_readOne (wsV RX4 59 RX4 yX4_readNumber wsX4_readNumber) := goodIn_app (goodIn_of _ (by decide +kernel)) ggX4_readOne_X4_readNumber
set_option maxRecDepth 20000 in
theorem ggX4_readOne_X4_fail : GoodIn wsX4_readOne wsX4_fail := goodIn_r _ [82, 83, 18, 140, 141, 142, 143, 144] (by decide +kernel) (by decide +kernel)
set_option maxRecDepth 20000 in
theorem gX4_readOne_X4_fail : GoodIn wsX4_readOne (wsV RX4 67 RX4 yX4_fail wsX4_fail) := goodIn_app (goodIn_of _ (by decide +kernel)) ggX4_readOne_X4_fail
set_option maxRecDepth 20000 in
theorem ggX4_readOne_X4_needSign : GoodIn wsX4_readOne wsX4_needSign := goodIn_r _ [119, 120, 121, 122, 5, 123, 11, 12, 13, 14, 15, 16, 17, 18, 79, 80, 81, 82, 83, 140, 141, 142, 143, 144] (by decide +kernel) (by decide +kernel)
set_option maxRecDepth 20000 in
theorem gX4_readOne_X4_needSign : GoodIn wsX4_readOne (wsV RX4 70 RX4 yX4_needSign wsX4_needSign) := goodIn_app (goodIn_of _ (by decide +kernel)) ggX4_readOne_X4_needSign
theorem dX4_readOne_0 : decode cX4_readOne 0 = .ok (.aload_n 0, 1) := by decide +kernel
theorem dX4_readOne_1 : decode cX4_readOne 1 = .ok (.invokevirtual 35, 3) := by decide +kernel
theorem dX4_readOne_4 : decode cX4_readOne 4 = .ok (.istore_n 2, 1) := by decide +kernel
theorem dX4_readOne_5 : decode cX4_readOne 5 = .ok (.iload_n 2, 1) := by decide +kernel
theorem dX4_readOne_6 : decode cX4_readOne 6 = .ok (.ifCond .lt 12, 3) := by decide +kernel
theorem dX4_readOne_9 : decode cX4_readOne 9 = .ok (.aload_n 0, 1) := by decide +kernel
theorem dX4_readOne_10 : decode cX4_readOne 10 = .ok (.aload_n 1, 1) := by decide +kernel
theorem dX4_readOne_11 : decode cX4_readOne 11 = .ok (.iload_n 2, 1) := by decide +kernel
theorem dX4_readOne_12 : decode cX4_readOne 12 = .ok (.invokevirtual 39, 3) := by decide +kernel
theorem dX4_readOne_15 : decode cX4_readOne 15 = .ok (.goto 64, 3) := by decide +kernel
theorem dX4_readOne_18 : decode cX4_readOne 18 = .ok (.aload_n 0, 1) := by decide +kernel
theorem dX4_readOne_19 : decode cX4_readOne 19 = .ok (.ldc 43, 2) := by decide +kernel
theorem dX4_readOne_21 : decode cX4_readOne 21 = .ok (.invokevirtual 45, 3) := by decide +kernel
theorem dX4_readOne_24 : decode cX4_readOne 24 = .ok (.ifCond .eq 11, 3) := by decide +kernel
theorem dX4_readOne_27 : decode cX4_readOne 27 = .ok (.aload_n 0, 1) := by decide +kernel
theorem dX4_readOne_28 : decode cX4_readOne 28 = .ok (.aload_n 1, 1) := by decide +kernel
theorem dX4_readOne_29 : decode cX4_readOne 29 = .ok (.invokevirtual 49, 3) := by decide +kernel
theorem dX4_readOne_32 : decode cX4_readOne 32 = .ok (.goto 47, 3) := by decide +kernel
theorem dX4_readOne_35 : decode cX4_readOne 35 = .ok (.aload_n 0, 1) := by decide +kernel
theorem dX4_readOne_36 : decode cX4_readOne 36 = .ok (.ldc 52, 2) := by decide +kernel
theorem dX4_readOne_38 : decode cX4_readOne 38 = .ok (.invokevirtual 45, 3) := by decide +kernel
theorem dX4_readOne_41 : decode cX4_readOne 41 = .ok (.ifCond .eq 11, 3) := by decide +kernel
theorem dX4_readOne_44 : decode cX4_readOne 44 = .ok (.aload_n 0, 1) := by decide +kernel
theorem dX4_readOne_45 : decode cX4_readOne 45 = .ok (.aload_n 1, 1) := by decide +kernel
theorem dX4_readOne_46 : decode cX4_readOne 46 = .ok (.invokevirtual 54, 3) := by decide +kernel
theorem dX4_readOne_49 : decode cX4_readOne 49 = .ok (.goto 30, 3) := by decide +kernel
theorem dX4_readOne_52 : decode cX4_readOne 52 = .ok (.aload_n 0, 1) := by decide +kernel
theorem dX4_readOne_53 : decode cX4_readOne 53 = .ok (.ldc 57, 2) := by decide +kernel
theorem dX4_readOne_55 : decode cX4_readOne 55 = .ok (.invokevirtual 45, 3) := by decide +kernel
theorem dX4_readOne_58 : decode cX4_readOne 58 = .ok (.ifCond .eq 17, 3) := by decide +kernel
theorem dX4_readOne_61 : decode cX4_readOne 61 = .ok (.aload_n 1, 1) := by decide +kernel
theorem dX4_readOne_62 : decode cX4_readOne 62 = .ok (.aload_n 0, 1) := by decide +kernel
theorem dX4_readOne_63 : decode cX4_readOne 63 = .ok (.iconst 0, 1) := by decide +kernel
theorem dX4_readOne_64 : decode cX4_readOne 64 = .ok (.bipush 50, 2) := by decide +kernel
theorem dX4_readOne_66 : decode cX4_readOne 66 = .ok (.invokevirtual 59, 3) := by decide +kernel
theorem dX4_readOne_69 : decode cX4_readOne 69 = .ok (.putfield 63, 3) := by decide +kernel
theorem dX4_readOne_72 : decode cX4_readOne 72 = .ok (.goto 7, 3) := by decide +kernel
theorem dX4_readOne_75 : decode cX4_readOne 75 = .ok (.aload_n 0, 1) := by decide +kernel
theorem dX4_readOne_76 : decode cX4_readOne 76 = .ok (.invokevirtual 67, 3) := by decide +kernel
theorem dX4_readOne_79 : decode cX4_readOne 79 = .ok (.aload_n 0, 1) := by decide +kernel
theorem dX4_readOne_80 : decode cX4_readOne 80 = .ok (.bipush 59, 2) := by decide +kernel
theorem dX4_readOne_82 : decode cX4_readOne 82 = .ok (.invokevirtual 70, 3) := by decide +kernel
theorem dX4_readOne_85 : decode cX4_readOne 85 = .ok (.return_, 1) := by decide +kernel
set_option maxRecDepth 20000 in
theorem ggX4_readKind_X4_isWord : GoodIn wsX4_readKind wsX4_isWord := goodIn_r _ [5, 6, 7, 8, 9, 10, 11, 4, 12, 13, 14, 15, 16, 17, 18, 19, 20, 21, 22, 23, 24, 25, 26, 27, 28, 29, 30, 31, 32, 33, 34, 35, 36, 37, 38, 39, 40, 41, 42, 43, 44, 45, 46, 47, 48, 49, 50, 51, 52, 53, 54, 55, 56, 57, 58, 59, 60, 61, 62, 63, 64, 65, 66, 67] (by decide +kernel) (by decide +kernel)
set_option maxRecDepth 20000 in
theorem gX4_readKind_X4_isWord : GoodIn wsX4_readKind (wsV RX4 45 RX4 yX4_isWord wsX4_isWord) := goodIn_app (goodIn_of _ (by decide +kernel)) ggX4_readKind_X4_isWord
theorem dX4_readKind_0 : decode cX4_readKind 0 = .ok (.aload_n 0, 1) := by decide +kernel
theorem dX4_readKind_1 : decode cX4_readKind 1 = .ok (.ldc 74, 2) := by decide +kernel
theorem dX4_readKind_3 : decode cX4_readKind 3 = .ok (.invokevirtual 45, 3) := by decide +kernel
theorem dX4_readKind_6 : decode cX4_readKind 6 = .ok (.ifCond .eq 5, 3) := by decide +kernel
theorem dX4_readKind_9 : decode cX4_readKind 9 = .ok (.iconst 0, 1) := by decide +kernel
theorem dX4_readKind_10 : decode cX4_readKind 10 = .ok (.ireturn, 1) := by decide +kernel
theorem dX4_readKind_11 : decode cX4_readKind 11 = .ok (.aload_n 0, 1) := by decide +kernel
theorem dX4_readKind_12 : decode cX4_readKind 12 = .ok (.ldc 76, 2) := by decide +kernel
theorem dX4_readKind_14 : decode cX4_readKind 14 = .ok (.invokevirtual 45, 3) := by decide +kernel
theorem dX4_readKind_17 : decode cX4_readKind 17 = .ok (.ifCond .eq 5, 3) := by decide +kernel
theorem dX4_readKind_20 : decode cX4_readKind 20 = .ok (.iconst 1, 1) := by decide +kernel
theorem dX4_readKind_21 : decode cX4_readKind 21 = .ok (.ireturn, 1) := by decide +kernel
theorem dX4_readKind_22 : decode cX4_readKind 22 = .ok (.aload_n 0, 1) := by decide +kernel
theorem dX4_readKind_23 : decode cX4_readKind 23 = .ok (.ldc 78, 2) := by decide +kernel
theorem dX4_readKind_25 : decode cX4_readKind 25 = .ok (.invokevirtual 45, 3) := by decide +kernel
theorem dX4_readKind_28 : decode cX4_readKind 28 = .ok (.ifCond .eq 5, 3) := by decide +kernel
theorem dX4_readKind_31 : decode cX4_readKind 31 = .ok (.iconst 2, 1) := by decide +kernel
theorem dX4_readKind_32 : decode cX4_readKind 32 = .ok (.ireturn, 1) := by decide +kernel
theorem dX4_readKind_33 : decode cX4_readKind 33 = .ok (.aload_n 0, 1) := by decide +kernel
theorem dX4_readKind_34 : decode cX4_readKind 34 = .ok (.ldc 80, 2) := by decide +kernel
theorem dX4_readKind_36 : decode cX4_readKind 36 = .ok (.invokevirtual 45, 3) := by decide +kernel
theorem dX4_readKind_39 : decode cX4_readKind 39 = .ok (.ifCond .eq 5, 3) := by decide +kernel
theorem dX4_readKind_42 : decode cX4_readKind 42 = .ok (.iconst 3, 1) := by decide +kernel
theorem dX4_readKind_43 : decode cX4_readKind 43 = .ok (.ireturn, 1) := by decide +kernel
theorem dX4_readKind_44 : decode cX4_readKind 44 = .ok (.aload_n 0, 1) := by decide +kernel
theorem dX4_readKind_45 : decode cX4_readKind 45 = .ok (.ldc 82, 2) := by decide +kernel
theorem dX4_readKind_47 : decode cX4_readKind 47 = .ok (.invokevirtual 45, 3) := by decide +kernel
theorem dX4_readKind_50 : decode cX4_readKind 50 = .ok (.ifCond .eq 5, 3) := by decide +kernel
theorem dX4_readKind_53 : decode cX4_readKind 53 = .ok (.iconst 4, 1) := by decide +kernel
theorem dX4_readKind_54 : decode cX4_readKind 54 = .ok (.ireturn, 1) := by decide +kernel
theorem dX4_readKind_55 : decode cX4_readKind 55 = .ok (.aload_n 0, 1) := by decide +kernel
theorem dX4_readKind_56 : decode cX4_readKind 56 = .ok (.ldc 84, 2) := by decide +kernel
theorem dX4_readKind_58 : decode cX4_readKind 58 = .ok (.invokevirtual 45, 3) := by decide +kernel
theorem dX4_readKind_61 : decode cX4_readKind 61 = .ok (.ifCond .eq 7, 3) := by decide +kernel
theorem dX4_readKind_64 : decode cX4_readKind 64 = .ok (.iconst 5, 1) := by decide +kernel
theorem dX4_readKind_65 : decode cX4_readKind 65 = .ok (.goto 4, 3) := by decide +kernel
theorem dX4_readKind_68 : decode cX4_readKind 68 = .ok (.iconst (-1), 1) := by decide +kernel
theorem dX4_readKind_69 : decode cX4_readKind 69 = .ok (.ireturn, 1) := by decide +kernel
set_option maxRecDepth 20000 in
theorem ggX4_readPane_X10_isFull : GoodIn wsX4_readPane wsX10_isFull := goodIn_r _ [6, 7, 103, 104, 105, 106, 107, 108] (by decide +kernel) (by decide +kernel)
set_option maxRecDepth 20000 in
theorem gX4_readPane_X10_isFull : GoodIn wsX4_readPane (wsV RX4 86 RX10 yX10_isFull wsX10_isFull) := goodIn_app (goodIn_of _ (by decide +kernel)) ggX4_readPane_X10_isFull
set_option maxRecDepth 20000 in
theorem ggX4_readPane_X4_fail : GoodIn wsX4_readPane wsX4_fail := goodIn_r _ [12, 13, 14, 109, 110, 111, 112, 113] (by decide +kernel) (by decide +kernel)
set_option maxRecDepth 20000 in
theorem gX4_readPane_X4_fail : GoodIn wsX4_readPane (wsV RX4 67 RX4 yX4_fail wsX4_fail) := goodIn_app (goodIn_of _ (by decide +kernel)) ggX4_readPane_X4_fail
set_option maxRecDepth 20000 in
theorem ggX4_readPane_X4_readNumber : GoodIn wsX4_readPane wsX4_readNumber := goodIn_r _ [18, 19, 20, 21, 14, 22, 23, 24, 11, 25, 8, 9, 10, 12, 13, 109, 110, 111, 112, 113] (by decide +kernel) (by decide +kernel)
set_option maxRecDepth 20000 in
theorem gX4_readPane_X4_readNumber : GoodIn wsX4_readPane (wsV RX4 59 RX4 yX4_readNumber wsX4_readNumber) := goodIn_app (goodIn_of _ (by decide +kernel)) ggX4_readPane_X4_readNumber
set_option maxRecDepth 20000 in
theorem ggX4_readPane_X10_addPane : GoodIn wsX4_readPane wsX10_addPane := goodIn_r _ [29, 30, 7, 31, 32, 33, 34, 35, 36, 37, 38, 39, 40, 41, 42, 43, 44, 103, 104, 105, 106, 107, 108, 98, 99, 100, 101, 102] (by decide +kernel) (by decide +kernel)
set_option maxRecDepth 20000 in
theorem gX4_readPane_X10_addPane : GoodIn wsX4_readPane (wsV RX4 90 RX10 yX10_addPane wsX10_addPane) := goodIn_app (goodIn_of _ (by decide +kernel)) ggX4_readPane_X10_addPane
set_option maxRecDepth 20000 in
theorem ggX4_readPane_X4_isWord : GoodIn wsX4_readPane wsX4_isWord := goodIn_r _ [48, 19, 20, 21, 22, 23, 24, 11, 25, 14, 49, 50, 51, 52, 53, 54, 55, 56, 57, 58, 59, 60, 61, 62, 63, 64, 65, 66, 67, 68, 69, 70, 71, 72, 73, 74, 75, 76, 77, 78, 79, 80, 81, 82, 83, 84, 85, 86, 87, 88, 89, 90, 91, 92, 93, 94, 95, 96, 97, 109, 110, 111, 112, 113] (by decide +kernel) (by decide +kernel)
set_option maxRecDepth 20000 in
theorem gX4_readPane_X4_isWord : GoodIn wsX4_readPane (wsV RX4 45 RX4 yX4_isWord wsX4_isWord) := goodIn_app (goodIn_of _ (by decide +kernel)) ggX4_readPane_X4_isWord
theorem dX4_readPane_0 : decode cX4_readPane 0 = .ok (.aload_n 1, 1) := by decide +kernel
theorem dX4_readPane_1 : decode cX4_readPane 1 = .ok (.invokevirtual 86, 3) := by decide +kernel
theorem dX4_readPane_4 : decode cX4_readPane 4 = .ok (.ifCond .eq 8, 3) := by decide +kernel
theorem dX4_readPane_7 : decode cX4_readPane 7 = .ok (.aload_n 0, 1) := by decide +kernel
theorem dX4_readPane_8 : decode cX4_readPane 8 = .ok (.invokevirtual 67, 3) := by decide +kernel
theorem dX4_readPane_11 : decode cX4_readPane 11 = .ok (.return_, 1) := by decide +kernel
theorem dX4_readPane_12 : decode cX4_readPane 12 = .ok (.aload_n 1, 1) := by decide +kernel
theorem dX4_readPane_13 : decode cX4_readPane 13 = .ok (.iload_n 2, 1) := by decide +kernel
theorem dX4_readPane_14 : decode cX4_readPane 14 = .ok (.aload_n 0, 1) := by decide +kernel
theorem dX4_readPane_15 : decode cX4_readPane 15 = .ok (.iconst 1, 1) := by decide +kernel
theorem dX4_readPane_16 : decode cX4_readPane 16 = .ok (.bipush 16, 2) := by decide +kernel
theorem dX4_readPane_18 : decode cX4_readPane 18 = .ok (.invokevirtual 59, 3) := by decide +kernel
theorem dX4_readPane_21 : decode cX4_readPane 21 = .ok (.invokevirtual 90, 3) := by decide +kernel
theorem dX4_readPane_24 : decode cX4_readPane 24 = .ok (.astore_n 3, 1) := by decide +kernel
theorem dX4_readPane_25 : decode cX4_readPane 25 = .ok (.aload_n 0, 1) := by decide +kernel
theorem dX4_readPane_26 : decode cX4_readPane 26 = .ok (.ldc 94, 2) := by decide +kernel
theorem dX4_readPane_28 : decode cX4_readPane 28 = .ok (.invokevirtual 45, 3) := by decide +kernel
theorem dX4_readPane_31 : decode cX4_readPane 31 = .ok (.ifCond .eq 13, 3) := by decide +kernel
theorem dX4_readPane_34 : decode cX4_readPane 34 = .ok (.aload_n 3, 1) := by decide +kernel
theorem dX4_readPane_35 : decode cX4_readPane 35 = .ok (.aload_n 0, 1) := by decide +kernel
theorem dX4_readPane_36 : decode cX4_readPane 36 = .ok (.iconst 0, 1) := by decide +kernel
theorem dX4_readPane_37 : decode cX4_readPane 37 = .ok (.iconst 3, 1) := by decide +kernel
theorem dX4_readPane_38 : decode cX4_readPane 38 = .ok (.invokevirtual 59, 3) := by decide +kernel
theorem dX4_readPane_41 : decode cX4_readPane 41 = .ok (.putfield 95, 3) := by decide +kernel
theorem dX4_readPane_44 : decode cX4_readPane 44 = .ok (.return_, 1) := by decide +kernel
set_option maxRecDepth 20000 in
theorem ggX4_readView_X4_readNumber : GoodIn wsX4_readView wsX4_readNumber := goodIn_r _ [6, 7, 8, 9, 10, 11, 12, 13, 5, 14, 15, 16, 17, 18, 19, 94, 95, 96, 97, 98] (by decide +kernel) (by decide +kernel)
set_option maxRecDepth 20000 in
theorem gX4_readView_X4_readNumber : GoodIn wsX4_readView (wsV RX4 59 RX4 yX4_readNumber wsX4_readNumber) := goodIn_app (goodIn_of _ (by decide +kernel)) ggX4_readView_X4_readNumber
set_option maxRecDepth 20000 in
theorem ggX4_readView_X4_needWord : GoodIn wsX4_readView wsX4_needWord := goodIn_r _ [23, 24, 25, 26, 5, 27, 7, 8, 9, 11, 12, 13, 14, 10, 28, 29, 30, 31, 32, 33, 34, 35, 36, 37, 38, 39, 40, 41, 42, 43, 44, 45, 46, 47, 48, 49, 50, 51, 52, 53, 54, 55, 56, 57, 58, 59, 60, 61, 62, 63, 64, 65, 66, 67, 68, 69, 70, 71, 72, 73, 74, 75, 76, 15, 16, 17, 18, 19, 94, 95, 96, 97, 98] (by decide +kernel) (by decide +kernel)
set_option maxRecDepth 20000 in
theorem gX4_readView_X4_needWord : GoodIn wsX4_readView (wsV RX4 102 RX4 yX4_needWord wsX4_needWord) := goodIn_app (goodIn_of _ (by decide +kernel)) ggX4_readView_X4_needWord
set_option maxRecDepth 20000 in
theorem ggX4_readView_X4_needSign : GoodIn wsX4_readView wsX4_needSign := goodIn_r _ [80, 81, 82, 83, 5, 84, 7, 8, 9, 11, 12, 13, 14, 10, 15, 16, 17, 18, 19, 94, 95, 96, 97, 98] (by decide +kernel) (by decide +kernel)
set_option maxRecDepth 20000 in
theorem gX4_readView_X4_needSign : GoodIn wsX4_readView (wsV RX4 70 RX4 yX4_needSign wsX4_needSign) := goodIn_app (goodIn_of _ (by decide +kernel)) ggX4_readView_X4_needSign
set_option maxRecDepth 20000 in
theorem ggX4_readView_X11_viewSlot : GoodIn wsX4_readView wsX11_viewSlot := goodIn_r _ [87] (by decide +kernel) (by decide +kernel)
set_option maxRecDepth 20000 in
theorem gX4_readView_X11_viewSlot_n109 : GoodIn wsX4_readView (wsX11_viewSlot) := ggX4_readView_X11_viewSlot
set_option maxRecDepth 20000 in
theorem ggX4_readView_X4_isSign : GoodIn wsX4_readView wsX4_isSign := goodIn_r _ [84, 7, 8, 9, 11, 12, 13, 5, 14, 10, 94, 95, 96, 97, 98] (by decide +kernel) (by decide +kernel)
set_option maxRecDepth 20000 in
theorem gX4_readView_X4_isSign : GoodIn wsX4_readView (wsV RX4 112 RX4 yX4_isSign wsX4_isSign) := goodIn_app (goodIn_of _ (by decide +kernel)) ggX4_readView_X4_isSign
set_option maxRecDepth 20000 in
theorem ggX4_readView_X4_look : GoodIn wsX4_readView wsX4_look := goodIn_r _ [14, 7, 8, 9, 10, 94, 95, 96, 97, 98] (by decide +kernel) (by decide +kernel)
set_option maxRecDepth 20000 in
theorem gX4_readView_X4_look : GoodIn wsX4_readView (wsV RX4 28 RX4 yX4_look wsX4_look) := goodIn_app (goodIn_of _ (by decide +kernel)) ggX4_readView_X4_look
set_option maxRecDepth 20000 in
theorem ggX4_readView_X4_fail : GoodIn wsX4_readView wsX4_fail := goodIn_r _ [18, 19, 10, 94, 95, 96, 97, 98] (by decide +kernel) (by decide +kernel)
set_option maxRecDepth 20000 in
theorem gX4_readView_X4_fail : GoodIn wsX4_readView (wsV RX4 67 RX4 yX4_fail wsX4_fail) := goodIn_app (goodIn_of _ (by decide +kernel)) ggX4_readView_X4_fail
theorem dX4_readView_0 : decode cX4_readView 0 = .ok (.aload_n 0, 1) := by decide +kernel
theorem dX4_readView_1 : decode cX4_readView 1 = .ok (.iconst 0, 1) := by decide +kernel
theorem dX4_readView_2 : decode cX4_readView 2 = .ok (.iconst 3, 1) := by decide +kernel
theorem dX4_readView_3 : decode cX4_readView 3 = .ok (.invokevirtual 59, 3) := by decide +kernel
theorem dX4_readView_6 : decode cX4_readView 6 = .ok (.istore_n 2, 1) := by decide +kernel
theorem dX4_readView_7 : decode cX4_readView 7 = .ok (.aload_n 0, 1) := by decide +kernel
theorem dX4_readView_8 : decode cX4_readView 8 = .ok (.ldc 100, 2) := by decide +kernel
theorem dX4_readView_10 : decode cX4_readView 10 = .ok (.invokevirtual 102, 3) := by decide +kernel
theorem dX4_readView_13 : decode cX4_readView 13 = .ok (.aload_n 0, 1) := by decide +kernel
theorem dX4_readView_14 : decode cX4_readView 14 = .ok (.iconst 0, 1) := by decide +kernel
theorem dX4_readView_15 : decode cX4_readView 15 = .ok (.bipush 49, 2) := by decide +kernel
theorem dX4_readView_17 : decode cX4_readView 17 = .ok (.invokevirtual 59, 3) := by decide +kernel
theorem dX4_readView_20 : decode cX4_readView 20 = .ok (.istore_n 3, 1) := by decide +kernel
theorem dX4_readView_21 : decode cX4_readView 21 = .ok (.aload_n 0, 1) := by decide +kernel
theorem dX4_readView_22 : decode cX4_readView 22 = .ok (.bipush 58, 2) := by decide +kernel
theorem dX4_readView_24 : decode cX4_readView 24 = .ok (.invokevirtual 70, 3) := by decide +kernel
theorem dX4_readView_27 : decode cX4_readView 27 = .ok (.iconst 1, 1) := by decide +kernel
theorem dX4_readView_28 : decode cX4_readView 28 = .ok (.istore 4, 2) := by decide +kernel
theorem dX4_readView_30 : decode cX4_readView 30 = .ok (.iload 4, 2) := by decide +kernel
theorem dX4_readView_32 : decode cX4_readView 32 = .ok (.ifCond .eq 40, 3) := by decide +kernel
theorem dX4_readView_35 : decode cX4_readView 35 = .ok (.iload_n 3, 1) := by decide +kernel
theorem dX4_readView_36 : decode cX4_readView 36 = .ok (.bipush 50, 2) := by decide +kernel
theorem dX4_readView_38 : decode cX4_readView 38 = .ok (.if_icmp .ge 34, 3) := by decide +kernel
theorem dX4_readView_41 : decode cX4_readView 41 = .ok (.aload_n 1, 1) := by decide +kernel
theorem dX4_readView_42 : decode cX4_readView 42 = .ok (.getfield 106, 3) := by decide +kernel
theorem dX4_readView_45 : decode cX4_readView 45 = .ok (.iload_n 2, 1) := by decide +kernel
theorem dX4_readView_46 : decode cX4_readView 46 = .ok (.iload_n 3, 1) := by decide +kernel
theorem dX4_readView_47 : decode cX4_readView 47 = .ok (.invokestatic 109, 3) := by decide +kernel
theorem dX4_readView_50 : decode cX4_readView 50 = .ok (.aload_n 0, 1) := by decide +kernel
theorem dX4_readView_51 : decode cX4_readView 51 = .ok (.iconst 0, 1) := by decide +kernel
theorem dX4_readView_52 : decode cX4_readView 52 = .ok (.bipush 99, 2) := by decide +kernel
theorem dX4_readView_54 : decode cX4_readView 54 = .ok (.invokevirtual 59, 3) := by decide +kernel
theorem dX4_readView_57 : decode cX4_readView 57 = .ok (.iastore, 1) := by decide +kernel
theorem dX4_readView_58 : decode cX4_readView 58 = .ok (.aload_n 0, 1) := by decide +kernel
theorem dX4_readView_59 : decode cX4_readView 59 = .ok (.bipush 44, 2) := by decide +kernel
theorem dX4_readView_61 : decode cX4_readView 61 = .ok (.invokevirtual 112, 3) := by decide +kernel
theorem dX4_readView_64 : decode cX4_readView 64 = .ok (.istore 4, 2) := by decide +kernel
theorem dX4_readView_66 : decode cX4_readView 66 = .ok (.iinc 3 1, 3) := by decide +kernel
theorem dX4_readView_69 : decode cX4_readView 69 = .ok (.goto (-39), 3) := by decide +kernel
theorem dX4_readView_72 : decode cX4_readView 72 = .ok (.iload 4, 2) := by decide +kernel
theorem dX4_readView_74 : decode cX4_readView 74 = .ok (.ifCond .eq 11, 3) := by decide +kernel
theorem dX4_readView_77 : decode cX4_readView 77 = .ok (.aload_n 0, 1) := by decide +kernel
theorem dX4_readView_78 : decode cX4_readView 78 = .ok (.invokevirtual 28, 3) := by decide +kernel
theorem dX4_readView_81 : decode cX4_readView 81 = .ok (.aload_n 0, 1) := by decide +kernel
theorem dX4_readView_82 : decode cX4_readView 82 = .ok (.invokevirtual 67, 3) := by decide +kernel
theorem dX4_readView_85 : decode cX4_readView 85 = .ok (.return_, 1) := by decide +kernel
set_option maxRecDepth 20000 in
theorem ggX4_readLove_X4_readNumber : GoodIn wsX4_readLove wsX4_readNumber := goodIn_r _ [6, 7, 8, 9, 10, 11, 12, 13, 5, 14, 15, 16, 17, 18, 19, 29, 30, 31, 32, 33] (by decide +kernel) (by decide +kernel)
set_option maxRecDepth 20000 in
theorem gX4_readLove_X4_readNumber : GoodIn wsX4_readLove (wsV RX4 59 RX4 yX4_readNumber wsX4_readNumber) := goodIn_app (goodIn_of _ (by decide +kernel)) ggX4_readLove_X4_readNumber
set_option maxRecDepth 20000 in
theorem ggX4_readLove_X11_loveSlot : GoodIn wsX4_readLove wsX11_loveSlot := goodIn_r _ [22] (by decide +kernel) (by decide +kernel)
set_option maxRecDepth 20000 in
theorem gX4_readLove_X11_loveSlot_n119 : GoodIn wsX4_readLove (wsX11_loveSlot) := ggX4_readLove_X11_loveSlot
theorem dX4_readLove_0 : decode cX4_readLove 0 = .ok (.aload_n 0, 1) := by decide +kernel
theorem dX4_readLove_1 : decode cX4_readLove 1 = .ok (.iconst 0, 1) := by decide +kernel
theorem dX4_readLove_2 : decode cX4_readLove 2 = .ok (.iconst 2, 1) := by decide +kernel
theorem dX4_readLove_3 : decode cX4_readLove 3 = .ok (.invokevirtual 59, 3) := by decide +kernel
theorem dX4_readLove_6 : decode cX4_readLove 6 = .ok (.istore_n 2, 1) := by decide +kernel
theorem dX4_readLove_7 : decode cX4_readLove 7 = .ok (.iconst 0, 1) := by decide +kernel
theorem dX4_readLove_8 : decode cX4_readLove 8 = .ok (.istore_n 3, 1) := by decide +kernel
theorem dX4_readLove_9 : decode cX4_readLove 9 = .ok (.iload_n 3, 1) := by decide +kernel
theorem dX4_readLove_10 : decode cX4_readLove 10 = .ok (.iconst 4, 1) := by decide +kernel
theorem dX4_readLove_11 : decode cX4_readLove 11 = .ok (.if_icmp .ge 26, 3) := by decide +kernel
theorem dX4_readLove_14 : decode cX4_readLove 14 = .ok (.aload_n 1, 1) := by decide +kernel
theorem dX4_readLove_15 : decode cX4_readLove 15 = .ok (.getfield 116, 3) := by decide +kernel
theorem dX4_readLove_18 : decode cX4_readLove 18 = .ok (.iload_n 2, 1) := by decide +kernel
theorem dX4_readLove_19 : decode cX4_readLove 19 = .ok (.iload_n 3, 1) := by decide +kernel
theorem dX4_readLove_20 : decode cX4_readLove 20 = .ok (.invokestatic 119, 3) := by decide +kernel
theorem dX4_readLove_23 : decode cX4_readLove 23 = .ok (.aload_n 0, 1) := by decide +kernel
theorem dX4_readLove_24 : decode cX4_readLove 24 = .ok (.iconst 0, 1) := by decide +kernel
theorem dX4_readLove_25 : decode cX4_readLove 25 = .ok (.bipush 9, 2) := by decide +kernel
theorem dX4_readLove_27 : decode cX4_readLove 27 = .ok (.invokevirtual 59, 3) := by decide +kernel
theorem dX4_readLove_30 : decode cX4_readLove 30 = .ok (.iastore, 1) := by decide +kernel
theorem dX4_readLove_31 : decode cX4_readLove 31 = .ok (.iinc 3 1, 3) := by decide +kernel
theorem dX4_readLove_34 : decode cX4_readLove 34 = .ok (.goto (-25), 3) := by decide +kernel
theorem dX4_readLove_37 : decode cX4_readLove 37 = .ok (.return_, 1) := by decide +kernel
theorem dX4_look_0 : decode cX4_look 0 = .ok (.aload_n 0, 1) := by decide +kernel
theorem dX4_look_1 : decode cX4_look 1 = .ok (.getfield 19, 3) := by decide +kernel
theorem dX4_look_4 : decode cX4_look 4 = .ok (.aload_n 0, 1) := by decide +kernel
theorem dX4_look_5 : decode cX4_look 5 = .ok (.getfield 15, 3) := by decide +kernel
theorem dX4_look_8 : decode cX4_look 8 = .ok (.if_icmp .ge 30, 3) := by decide +kernel
theorem dX4_look_11 : decode cX4_look 11 = .ok (.aload_n 0, 1) := by decide +kernel
theorem dX4_look_12 : decode cX4_look 12 = .ok (.getfield 9, 3) := by decide +kernel
theorem dX4_look_15 : decode cX4_look 15 = .ok (.aload_n 0, 1) := by decide +kernel
theorem dX4_look_16 : decode cX4_look 16 = .ok (.getfield 19, 3) := by decide +kernel
theorem dX4_look_19 : decode cX4_look 19 = .ok (.iaload, 1) := by decide +kernel
theorem dX4_look_20 : decode cX4_look 20 = .ok (.bipush 32, 2) := by decide +kernel
theorem dX4_look_22 : decode cX4_look 22 = .ok (.if_icmp .ne 16, 3) := by decide +kernel
theorem dX4_look_25 : decode cX4_look 25 = .ok (.aload_n 0, 1) := by decide +kernel
theorem dX4_look_26 : decode cX4_look 26 = .ok (.dup, 1) := by decide +kernel
theorem dX4_look_27 : decode cX4_look 27 = .ok (.getfield 19, 3) := by decide +kernel
theorem dX4_look_30 : decode cX4_look 30 = .ok (.iconst 1, 1) := by decide +kernel
theorem dX4_look_31 : decode cX4_look 31 = .ok (.iadd, 1) := by decide +kernel
theorem dX4_look_32 : decode cX4_look 32 = .ok (.putfield 19, 3) := by decide +kernel
theorem dX4_look_35 : decode cX4_look 35 = .ok (.goto (-35), 3) := by decide +kernel
theorem dX4_look_38 : decode cX4_look 38 = .ok (.aload_n 0, 1) := by decide +kernel
theorem dX4_look_39 : decode cX4_look 39 = .ok (.aload_n 0, 1) := by decide +kernel
theorem dX4_look_40 : decode cX4_look 40 = .ok (.getfield 19, 3) := by decide +kernel
theorem dX4_look_43 : decode cX4_look 43 = .ok (.putfield 22, 3) := by decide +kernel
theorem dX4_look_46 : decode cX4_look 46 = .ok (.return_, 1) := by decide +kernel
theorem dX4_fail_0 : decode cX4_fail 0 = .ok (.aload_n 0, 1) := by decide +kernel
theorem dX4_fail_1 : decode cX4_fail 1 = .ok (.getfield 25, 3) := by decide +kernel
theorem dX4_fail_4 : decode cX4_fail 4 = .ok (.ifCond .ge 11, 3) := by decide +kernel
theorem dX4_fail_7 : decode cX4_fail 7 = .ok (.aload_n 0, 1) := by decide +kernel
theorem dX4_fail_8 : decode cX4_fail 8 = .ok (.aload_n 0, 1) := by decide +kernel
theorem dX4_fail_9 : decode cX4_fail 9 = .ok (.getfield 22, 3) := by decide +kernel
theorem dX4_fail_12 : decode cX4_fail 12 = .ok (.putfield 25, 3) := by decide +kernel
theorem dX4_fail_15 : decode cX4_fail 15 = .ok (.return_, 1) := by decide +kernel
set_option maxRecDepth 20000 in
theorem ggX4_readNumber_X4_look : GoodIn wsX4_readNumber wsX4_look := goodIn_r _ [9, 1, 2, 3, 4, 15, 16, 17, 18, 19] (by decide +kernel) (by decide +kernel)
set_option maxRecDepth 20000 in
theorem gX4_readNumber_X4_look : GoodIn wsX4_readNumber (wsV RX4 28 RX4 yX4_look wsX4_look) := goodIn_app (goodIn_of _ (by decide +kernel)) ggX4_readNumber_X4_look
set_option maxRecDepth 20000 in
theorem ggX4_readNumber_X4_fail : GoodIn wsX4_readNumber wsX4_fail := goodIn_r _ [13, 14, 4, 15, 16, 17, 18, 19] (by decide +kernel) (by decide +kernel)
set_option maxRecDepth 20000 in
theorem gX4_readNumber_X4_fail : GoodIn wsX4_readNumber (wsV RX4 67 RX4 yX4_fail wsX4_fail) := goodIn_app (goodIn_of _ (by decide +kernel)) ggX4_readNumber_X4_fail
theorem dX4_readNumber_0 : decode cX4_readNumber 0 = .ok (.aload_n 0, 1) := by decide +kernel
theorem dX4_readNumber_1 : decode cX4_readNumber 1 = .ok (.invokevirtual 28, 3) := by decide +kernel
theorem dX4_readNumber_4 : decode cX4_readNumber 4 = .ok (.iconst 0, 1) := by decide +kernel
theorem dX4_readNumber_5 : decode cX4_readNumber 5 = .ok (.istore_n 3, 1) := by decide +kernel
theorem dX4_readNumber_6 : decode cX4_readNumber 6 = .ok (.aload_n 0, 1) := by decide +kernel
theorem dX4_readNumber_7 : decode cX4_readNumber 7 = .ok (.getfield 19, 3) := by decide +kernel
theorem dX4_readNumber_10 : decode cX4_readNumber 10 = .ok (.aload_n 0, 1) := by decide +kernel
theorem dX4_readNumber_11 : decode cX4_readNumber 11 = .ok (.getfield 15, 3) := by decide +kernel
theorem dX4_readNumber_14 : decode cX4_readNumber 14 = .ok (.if_icmp .ge 62, 3) := by decide +kernel
theorem dX4_readNumber_17 : decode cX4_readNumber 17 = .ok (.aload_n 0, 1) := by decide +kernel
theorem dX4_readNumber_18 : decode cX4_readNumber 18 = .ok (.getfield 9, 3) := by decide +kernel
theorem dX4_readNumber_21 : decode cX4_readNumber 21 = .ok (.aload_n 0, 1) := by decide +kernel
theorem dX4_readNumber_22 : decode cX4_readNumber 22 = .ok (.getfield 19, 3) := by decide +kernel
theorem dX4_readNumber_25 : decode cX4_readNumber 25 = .ok (.iaload, 1) := by decide +kernel
theorem dX4_readNumber_26 : decode cX4_readNumber 26 = .ok (.bipush 48, 2) := by decide +kernel
theorem dX4_readNumber_28 : decode cX4_readNumber 28 = .ok (.if_icmp .lt 48, 3) := by decide +kernel
theorem dX4_readNumber_31 : decode cX4_readNumber 31 = .ok (.aload_n 0, 1) := by decide +kernel
theorem dX4_readNumber_32 : decode cX4_readNumber 32 = .ok (.getfield 9, 3) := by decide +kernel
theorem dX4_readNumber_35 : decode cX4_readNumber 35 = .ok (.aload_n 0, 1) := by decide +kernel
theorem dX4_readNumber_36 : decode cX4_readNumber 36 = .ok (.getfield 19, 3) := by decide +kernel
theorem dX4_readNumber_39 : decode cX4_readNumber 39 = .ok (.iaload, 1) := by decide +kernel
theorem dX4_readNumber_40 : decode cX4_readNumber 40 = .ok (.bipush 57, 2) := by decide +kernel
theorem dX4_readNumber_42 : decode cX4_readNumber 42 = .ok (.if_icmp .gt 34, 3) := by decide +kernel
theorem dX4_readNumber_45 : decode cX4_readNumber 45 = .ok (.iload_n 3, 1) := by decide +kernel
theorem dX4_readNumber_46 : decode cX4_readNumber 46 = .ok (.bipush 10, 2) := by decide +kernel
theorem dX4_readNumber_48 : decode cX4_readNumber 48 = .ok (.imul, 1) := by decide +kernel
theorem dX4_readNumber_49 : decode cX4_readNumber 49 = .ok (.aload_n 0, 1) := by decide +kernel
theorem dX4_readNumber_50 : decode cX4_readNumber 50 = .ok (.getfield 9, 3) := by decide +kernel
theorem dX4_readNumber_53 : decode cX4_readNumber 53 = .ok (.aload_n 0, 1) := by decide +kernel
theorem dX4_readNumber_54 : decode cX4_readNumber 54 = .ok (.getfield 19, 3) := by decide +kernel
theorem dX4_readNumber_57 : decode cX4_readNumber 57 = .ok (.iaload, 1) := by decide +kernel
theorem dX4_readNumber_58 : decode cX4_readNumber 58 = .ok (.iadd, 1) := by decide +kernel
theorem dX4_readNumber_59 : decode cX4_readNumber 59 = .ok (.bipush 48, 2) := by decide +kernel
theorem dX4_readNumber_61 : decode cX4_readNumber 61 = .ok (.isub, 1) := by decide +kernel
theorem dX4_readNumber_62 : decode cX4_readNumber 62 = .ok (.istore_n 3, 1) := by decide +kernel
theorem dX4_readNumber_63 : decode cX4_readNumber 63 = .ok (.aload_n 0, 1) := by decide +kernel
theorem dX4_readNumber_64 : decode cX4_readNumber 64 = .ok (.dup, 1) := by decide +kernel
theorem dX4_readNumber_65 : decode cX4_readNumber 65 = .ok (.getfield 19, 3) := by decide +kernel
theorem dX4_readNumber_68 : decode cX4_readNumber 68 = .ok (.iconst 1, 1) := by decide +kernel
theorem dX4_readNumber_69 : decode cX4_readNumber 69 = .ok (.iadd, 1) := by decide +kernel
theorem dX4_readNumber_70 : decode cX4_readNumber 70 = .ok (.putfield 19, 3) := by decide +kernel
theorem dX4_readNumber_73 : decode cX4_readNumber 73 = .ok (.goto (-67), 3) := by decide +kernel
theorem dX4_readNumber_76 : decode cX4_readNumber 76 = .ok (.aload_n 0, 1) := by decide +kernel
theorem dX4_readNumber_77 : decode cX4_readNumber 77 = .ok (.getfield 19, 3) := by decide +kernel
theorem dX4_readNumber_80 : decode cX4_readNumber 80 = .ok (.aload_n 0, 1) := by decide +kernel
theorem dX4_readNumber_81 : decode cX4_readNumber 81 = .ok (.getfield 22, 3) := by decide +kernel
theorem dX4_readNumber_84 : decode cX4_readNumber 84 = .ok (.isub, 1) := by decide +kernel
theorem dX4_readNumber_85 : decode cX4_readNumber 85 = .ok (.istore 4, 2) := by decide +kernel
theorem dX4_readNumber_87 : decode cX4_readNumber 87 = .ok (.iload 4, 2) := by decide +kernel
theorem dX4_readNumber_89 : decode cX4_readNumber 89 = .ok (.iconst 1, 1) := by decide +kernel
theorem dX4_readNumber_90 : decode cX4_readNumber 90 = .ok (.if_icmp .lt 19, 3) := by decide +kernel
theorem dX4_readNumber_93 : decode cX4_readNumber 93 = .ok (.iload 4, 2) := by decide +kernel
theorem dX4_readNumber_95 : decode cX4_readNumber 95 = .ok (.iconst 2, 1) := by decide +kernel
theorem dX4_readNumber_96 : decode cX4_readNumber 96 = .ok (.if_icmp .gt 13, 3) := by decide +kernel
theorem dX4_readNumber_99 : decode cX4_readNumber 99 = .ok (.iload_n 3, 1) := by decide +kernel
theorem dX4_readNumber_100 : decode cX4_readNumber 100 = .ok (.iload_n 1, 1) := by decide +kernel
theorem dX4_readNumber_101 : decode cX4_readNumber 101 = .ok (.if_icmp .lt 8, 3) := by decide +kernel
theorem dX4_readNumber_104 : decode cX4_readNumber 104 = .ok (.iload_n 3, 1) := by decide +kernel
theorem dX4_readNumber_105 : decode cX4_readNumber 105 = .ok (.iload_n 2, 1) := by decide +kernel
theorem dX4_readNumber_106 : decode cX4_readNumber 106 = .ok (.if_icmp .le 9, 3) := by decide +kernel
theorem dX4_readNumber_109 : decode cX4_readNumber 109 = .ok (.aload_n 0, 1) := by decide +kernel
theorem dX4_readNumber_110 : decode cX4_readNumber 110 = .ok (.invokevirtual 67, 3) := by decide +kernel
theorem dX4_readNumber_113 : decode cX4_readNumber 113 = .ok (.iload_n 1, 1) := by decide +kernel
theorem dX4_readNumber_114 : decode cX4_readNumber 114 = .ok (.ireturn, 1) := by decide +kernel
theorem dX4_readNumber_115 : decode cX4_readNumber 115 = .ok (.iload_n 3, 1) := by decide +kernel
theorem dX4_readNumber_116 : decode cX4_readNumber 116 = .ok (.ireturn, 1) := by decide +kernel
set_option maxRecDepth 20000 in
theorem ggX4_isWord_X4_look : GoodIn wsX4_isWord wsX4_look := goodIn_r _ [8, 1, 2, 3, 9, 59, 60, 61, 62, 63] (by decide +kernel) (by decide +kernel)
set_option maxRecDepth 20000 in
theorem gX4_isWord_X4_look : GoodIn wsX4_isWord (wsV RX4 28 RX4 yX4_look wsX4_look) := goodIn_app (goodIn_of _ (by decide +kernel)) ggX4_isWord_X4_look
set_option maxRecDepth 20000 in
theorem ggX4_isWord_J0_length_8abf5 : GoodIn wsX4_isWord wsJ0_length_8abf5 := goodIn_r _ [14, 15, 16, 17, 18, 13, 19, 20, 21] (by decide +kernel) (by decide +kernel)
set_option maxRecDepth 20000 in
theorem gX4_isWord_J0_length_8abf5 : GoodIn wsX4_isWord (wsV RX4 122 RJ0 yJ0_length_8abf5 wsJ0_length_8abf5) := goodIn_app (goodIn_of _ (by decide +kernel)) ggX4_isWord_J0_length_8abf5
set_option maxRecDepth 20000 in
theorem ggX4_isWord_J0_charAt_5068e : GoodIn wsX4_isWord wsJ0_charAt_5068e := goodIn_r _ [25, 15, 26, 27, 28, 13, 29, 20, 21, 30, 31, 32, 33, 34, 35, 36, 37, 38, 39, 40, 41, 42, 43, 44, 45, 46, 47, 48, 49, 50, 51, 52, 53, 54, 55, 56, 57, 58] (by decide +kernel) (by decide +kernel)
set_option maxRecDepth 20000 in
theorem gX4_isWord_J0_charAt_5068e : GoodIn wsX4_isWord (wsV RX4 126 RJ0 yJ0_charAt_5068e wsJ0_charAt_5068e) := goodIn_app (goodIn_of _ (by decide +kernel)) ggX4_isWord_J0_charAt_5068e
theorem dX4_isWord_0 : decode cX4_isWord 0 = .ok (.aload_n 0, 1) := by decide +kernel
theorem dX4_isWord_1 : decode cX4_isWord 1 = .ok (.invokevirtual 28, 3) := by decide +kernel
theorem dX4_isWord_4 : decode cX4_isWord 4 = .ok (.aload_n 0, 1) := by decide +kernel
theorem dX4_isWord_5 : decode cX4_isWord 5 = .ok (.getfield 19, 3) := by decide +kernel
theorem dX4_isWord_8 : decode cX4_isWord 8 = .ok (.istore_n 2, 1) := by decide +kernel
theorem dX4_isWord_9 : decode cX4_isWord 9 = .ok (.iload_n 2, 1) := by decide +kernel
theorem dX4_isWord_10 : decode cX4_isWord 10 = .ok (.aload_n 0, 1) := by decide +kernel
theorem dX4_isWord_11 : decode cX4_isWord 11 = .ok (.getfield 15, 3) := by decide +kernel
theorem dX4_isWord_14 : decode cX4_isWord 14 = .ok (.if_icmp .ge 31, 3) := by decide +kernel
theorem dX4_isWord_17 : decode cX4_isWord 17 = .ok (.aload_n 0, 1) := by decide +kernel
theorem dX4_isWord_18 : decode cX4_isWord 18 = .ok (.getfield 9, 3) := by decide +kernel
theorem dX4_isWord_21 : decode cX4_isWord 21 = .ok (.iload_n 2, 1) := by decide +kernel
theorem dX4_isWord_22 : decode cX4_isWord 22 = .ok (.iaload, 1) := by decide +kernel
theorem dX4_isWord_23 : decode cX4_isWord 23 = .ok (.bipush 97, 2) := by decide +kernel
theorem dX4_isWord_25 : decode cX4_isWord 25 = .ok (.if_icmp .lt 20, 3) := by decide +kernel
theorem dX4_isWord_28 : decode cX4_isWord 28 = .ok (.aload_n 0, 1) := by decide +kernel
theorem dX4_isWord_29 : decode cX4_isWord 29 = .ok (.getfield 9, 3) := by decide +kernel
theorem dX4_isWord_32 : decode cX4_isWord 32 = .ok (.iload_n 2, 1) := by decide +kernel
theorem dX4_isWord_33 : decode cX4_isWord 33 = .ok (.iaload, 1) := by decide +kernel
theorem dX4_isWord_34 : decode cX4_isWord 34 = .ok (.bipush 122, 2) := by decide +kernel
theorem dX4_isWord_36 : decode cX4_isWord 36 = .ok (.if_icmp .gt 9, 3) := by decide +kernel
theorem dX4_isWord_39 : decode cX4_isWord 39 = .ok (.iinc 2 1, 3) := by decide +kernel
theorem dX4_isWord_42 : decode cX4_isWord 42 = .ok (.goto (-33), 3) := by decide +kernel
theorem dX4_isWord_45 : decode cX4_isWord 45 = .ok (.iload_n 2, 1) := by decide +kernel
theorem dX4_isWord_46 : decode cX4_isWord 46 = .ok (.aload_n 0, 1) := by decide +kernel
theorem dX4_isWord_47 : decode cX4_isWord 47 = .ok (.getfield 19, 3) := by decide +kernel
theorem dX4_isWord_50 : decode cX4_isWord 50 = .ok (.isub, 1) := by decide +kernel
theorem dX4_isWord_51 : decode cX4_isWord 51 = .ok (.aload_n 1, 1) := by decide +kernel
theorem dX4_isWord_52 : decode cX4_isWord 52 = .ok (.invokevirtual 122, 3) := by decide +kernel
theorem dX4_isWord_55 : decode cX4_isWord 55 = .ok (.if_icmp .eq 5, 3) := by decide +kernel
theorem dX4_isWord_58 : decode cX4_isWord 58 = .ok (.iconst 0, 1) := by decide +kernel
theorem dX4_isWord_59 : decode cX4_isWord 59 = .ok (.ireturn, 1) := by decide +kernel
theorem dX4_isWord_60 : decode cX4_isWord 60 = .ok (.iconst 0, 1) := by decide +kernel
theorem dX4_isWord_61 : decode cX4_isWord 61 = .ok (.istore_n 3, 1) := by decide +kernel
theorem dX4_isWord_62 : decode cX4_isWord 62 = .ok (.iload_n 3, 1) := by decide +kernel
theorem dX4_isWord_63 : decode cX4_isWord 63 = .ok (.aload_n 1, 1) := by decide +kernel
theorem dX4_isWord_64 : decode cX4_isWord 64 = .ok (.invokevirtual 122, 3) := by decide +kernel
theorem dX4_isWord_67 : decode cX4_isWord 67 = .ok (.if_icmp .ge 30, 3) := by decide +kernel
theorem dX4_isWord_70 : decode cX4_isWord 70 = .ok (.aload_n 0, 1) := by decide +kernel
theorem dX4_isWord_71 : decode cX4_isWord 71 = .ok (.getfield 9, 3) := by decide +kernel
theorem dX4_isWord_74 : decode cX4_isWord 74 = .ok (.aload_n 0, 1) := by decide +kernel
theorem dX4_isWord_75 : decode cX4_isWord 75 = .ok (.getfield 19, 3) := by decide +kernel
theorem dX4_isWord_78 : decode cX4_isWord 78 = .ok (.iload_n 3, 1) := by decide +kernel
theorem dX4_isWord_79 : decode cX4_isWord 79 = .ok (.iadd, 1) := by decide +kernel
theorem dX4_isWord_80 : decode cX4_isWord 80 = .ok (.iaload, 1) := by decide +kernel
theorem dX4_isWord_81 : decode cX4_isWord 81 = .ok (.aload_n 1, 1) := by decide +kernel
theorem dX4_isWord_82 : decode cX4_isWord 82 = .ok (.iload_n 3, 1) := by decide +kernel
theorem dX4_isWord_83 : decode cX4_isWord 83 = .ok (.invokevirtual 126, 3) := by decide +kernel
theorem dX4_isWord_86 : decode cX4_isWord 86 = .ok (.if_icmp .eq 5, 3) := by decide +kernel
theorem dX4_isWord_89 : decode cX4_isWord 89 = .ok (.iconst 0, 1) := by decide +kernel
theorem dX4_isWord_90 : decode cX4_isWord 90 = .ok (.ireturn, 1) := by decide +kernel
theorem dX4_isWord_91 : decode cX4_isWord 91 = .ok (.iinc 3 1, 3) := by decide +kernel
theorem dX4_isWord_94 : decode cX4_isWord 94 = .ok (.goto (-32), 3) := by decide +kernel
theorem dX4_isWord_97 : decode cX4_isWord 97 = .ok (.aload_n 0, 1) := by decide +kernel
theorem dX4_isWord_98 : decode cX4_isWord 98 = .ok (.iload_n 2, 1) := by decide +kernel
theorem dX4_isWord_99 : decode cX4_isWord 99 = .ok (.putfield 19, 3) := by decide +kernel
theorem dX4_isWord_102 : decode cX4_isWord 102 = .ok (.iconst 1, 1) := by decide +kernel
theorem dX4_isWord_103 : decode cX4_isWord 103 = .ok (.ireturn, 1) := by decide +kernel
set_option maxRecDepth 20000 in
theorem ggX4_needWord_X4_isWord : GoodIn wsX4_needWord wsX4_isWord := goodIn_r _ [5, 6, 7, 8, 9, 10, 11, 4, 12, 13, 14, 15, 16, 17, 18, 19, 20, 21, 22, 23, 24, 25, 26, 27, 28, 29, 30, 31, 32, 33, 34, 35, 36, 37, 38, 39, 40, 41, 42, 43, 44, 45, 46, 47, 48, 49, 50, 51, 52, 53, 54, 55, 56, 57, 58, 59, 60, 61, 62, 68, 69, 70, 71, 72] (by decide +kernel) (by decide +kernel)
set_option maxRecDepth 20000 in
theorem gX4_needWord_X4_isWord : GoodIn wsX4_needWord (wsV RX4 45 RX4 yX4_isWord wsX4_isWord) := goodIn_app (goodIn_of _ (by decide +kernel)) ggX4_needWord_X4_isWord
set_option maxRecDepth 20000 in
theorem ggX4_needWord_X4_fail : GoodIn wsX4_needWord wsX4_fail := goodIn_r _ [66, 67, 13, 68, 69, 70, 71, 72] (by decide +kernel) (by decide +kernel)
set_option maxRecDepth 20000 in
theorem gX4_needWord_X4_fail : GoodIn wsX4_needWord (wsV RX4 67 RX4 yX4_fail wsX4_fail) := goodIn_app (goodIn_of _ (by decide +kernel)) ggX4_needWord_X4_fail
theorem dX4_needWord_0 : decode cX4_needWord 0 = .ok (.aload_n 0, 1) := by decide +kernel
theorem dX4_needWord_1 : decode cX4_needWord 1 = .ok (.aload_n 1, 1) := by decide +kernel
theorem dX4_needWord_2 : decode cX4_needWord 2 = .ok (.invokevirtual 45, 3) := by decide +kernel
theorem dX4_needWord_5 : decode cX4_needWord 5 = .ok (.ifCond .ne 7, 3) := by decide +kernel
theorem dX4_needWord_8 : decode cX4_needWord 8 = .ok (.aload_n 0, 1) := by decide +kernel
theorem dX4_needWord_9 : decode cX4_needWord 9 = .ok (.invokevirtual 67, 3) := by decide +kernel
theorem dX4_needWord_12 : decode cX4_needWord 12 = .ok (.return_, 1) := by decide +kernel
set_option maxRecDepth 20000 in
theorem ggX4_isSign_X4_look : GoodIn wsX4_isSign wsX4_look := goodIn_r _ [8, 1, 2, 3, 9, 10, 11, 12, 13, 14] (by decide +kernel) (by decide +kernel)
set_option maxRecDepth 20000 in
theorem gX4_isSign_X4_look : GoodIn wsX4_isSign (wsV RX4 28 RX4 yX4_look wsX4_look) := goodIn_app (goodIn_of _ (by decide +kernel)) ggX4_isSign_X4_look
theorem dX4_isSign_0 : decode cX4_isSign 0 = .ok (.aload_n 0, 1) := by decide +kernel
theorem dX4_isSign_1 : decode cX4_isSign 1 = .ok (.invokevirtual 28, 3) := by decide +kernel
theorem dX4_isSign_4 : decode cX4_isSign 4 = .ok (.aload_n 0, 1) := by decide +kernel
theorem dX4_isSign_5 : decode cX4_isSign 5 = .ok (.getfield 19, 3) := by decide +kernel
theorem dX4_isSign_8 : decode cX4_isSign 8 = .ok (.aload_n 0, 1) := by decide +kernel
theorem dX4_isSign_9 : decode cX4_isSign 9 = .ok (.getfield 15, 3) := by decide +kernel
theorem dX4_isSign_12 : decode cX4_isSign 12 = .ok (.if_icmp .ge 16, 3) := by decide +kernel
theorem dX4_isSign_15 : decode cX4_isSign 15 = .ok (.aload_n 0, 1) := by decide +kernel
theorem dX4_isSign_16 : decode cX4_isSign 16 = .ok (.getfield 9, 3) := by decide +kernel
theorem dX4_isSign_19 : decode cX4_isSign 19 = .ok (.aload_n 0, 1) := by decide +kernel
theorem dX4_isSign_20 : decode cX4_isSign 20 = .ok (.getfield 19, 3) := by decide +kernel
theorem dX4_isSign_23 : decode cX4_isSign 23 = .ok (.iaload, 1) := by decide +kernel
theorem dX4_isSign_24 : decode cX4_isSign 24 = .ok (.iload_n 1, 1) := by decide +kernel
theorem dX4_isSign_25 : decode cX4_isSign 25 = .ok (.if_icmp .eq 5, 3) := by decide +kernel
theorem dX4_isSign_28 : decode cX4_isSign 28 = .ok (.iconst 0, 1) := by decide +kernel
theorem dX4_isSign_29 : decode cX4_isSign 29 = .ok (.ireturn, 1) := by decide +kernel
theorem dX4_isSign_30 : decode cX4_isSign 30 = .ok (.aload_n 0, 1) := by decide +kernel
theorem dX4_isSign_31 : decode cX4_isSign 31 = .ok (.dup, 1) := by decide +kernel
theorem dX4_isSign_32 : decode cX4_isSign 32 = .ok (.getfield 19, 3) := by decide +kernel
theorem dX4_isSign_35 : decode cX4_isSign 35 = .ok (.iconst 1, 1) := by decide +kernel
theorem dX4_isSign_36 : decode cX4_isSign 36 = .ok (.iadd, 1) := by decide +kernel
theorem dX4_isSign_37 : decode cX4_isSign 37 = .ok (.putfield 19, 3) := by decide +kernel
theorem dX4_isSign_40 : decode cX4_isSign 40 = .ok (.iconst 1, 1) := by decide +kernel
theorem dX4_isSign_41 : decode cX4_isSign 41 = .ok (.ireturn, 1) := by decide +kernel
set_option maxRecDepth 20000 in
theorem ggX4_needSign_X4_isSign : GoodIn wsX4_needSign wsX4_isSign := goodIn_r _ [5, 6, 7, 8, 9, 10, 11, 4, 12, 13, 19, 20, 21, 22, 23] (by decide +kernel) (by decide +kernel)
set_option maxRecDepth 20000 in
theorem gX4_needSign_X4_isSign : GoodIn wsX4_needSign (wsV RX4 112 RX4 yX4_isSign wsX4_isSign) := goodIn_app (goodIn_of _ (by decide +kernel)) ggX4_needSign_X4_isSign
set_option maxRecDepth 20000 in
theorem ggX4_needSign_X4_fail : GoodIn wsX4_needSign wsX4_fail := goodIn_r _ [17, 18, 13, 19, 20, 21, 22, 23] (by decide +kernel) (by decide +kernel)
set_option maxRecDepth 20000 in
theorem gX4_needSign_X4_fail : GoodIn wsX4_needSign (wsV RX4 67 RX4 yX4_fail wsX4_fail) := goodIn_app (goodIn_of _ (by decide +kernel)) ggX4_needSign_X4_fail
theorem dX4_needSign_0 : decode cX4_needSign 0 = .ok (.aload_n 0, 1) := by decide +kernel
theorem dX4_needSign_1 : decode cX4_needSign 1 = .ok (.iload_n 1, 1) := by decide +kernel
theorem dX4_needSign_2 : decode cX4_needSign 2 = .ok (.invokevirtual 112, 3) := by decide +kernel
theorem dX4_needSign_5 : decode cX4_needSign 5 = .ok (.ifCond .ne 7, 3) := by decide +kernel
theorem dX4_needSign_8 : decode cX4_needSign 8 = .ok (.aload_n 0, 1) := by decide +kernel
theorem dX4_needSign_9 : decode cX4_needSign 9 = .ok (.invokevirtual 67, 3) := by decide +kernel
theorem dX4_needSign_12 : decode cX4_needSign 12 = .ok (.return_, 1) := by decide +kernel
set_option maxRecDepth 20000 in
theorem ggX5_init_X0_init : GoodIn wsX5_init wsX0_init := goodIn_r _ [4, 5, 6, 7, 8, 9, 10, 11, 12, 13, 14, 15, 16, 17, 18, 19, 20, 21, 22, 23, 24, 25, 26, 27, 28, 29, 30, 31, 32] (by decide +kernel) (by decide +kernel)
set_option maxRecDepth 20000 in
theorem gX5_init_X0_init : GoodIn wsX5_init (wsX0_init) := ggX5_init_X0_init
theorem dX5_init_0 : decode cX5_init 0 = .ok (.aload_n 0, 1) := by decide +kernel
theorem dX5_init_1 : decode cX5_init 1 = .ok (.iload_n 1, 1) := by decide +kernel
theorem dX5_init_2 : decode cX5_init 2 = .ok (.iload_n 2, 1) := by decide +kernel
theorem dX5_init_3 : decode cX5_init 3 = .ok (.aload_n 3, 1) := by decide +kernel
theorem dX5_init_4 : decode cX5_init 4 = .ok (.invokespecial 1, 3) := by decide +kernel
theorem dX5_init_7 : decode cX5_init 7 = .ok (.return_, 1) := by decide +kernel
set_option maxRecDepth 20000 in
theorem ggX5_shows_X9_begin : GoodIn wsX5_shows wsX9_begin := goodIn_r _ [7, 8, 9, 10, 47, 48, 49] (by decide +kernel) (by decide +kernel)
set_option maxRecDepth 20000 in
theorem gX5_shows_X9_begin : GoodIn wsX5_shows (wsV RX5 13 RX9 yX9_begin wsX9_begin) := goodIn_app (goodIn_of _ (by decide +kernel)) ggX5_shows_X9_begin
set_option maxRecDepth 20000 in
theorem ggX5_shows_X0_shows : GoodIn wsX5_shows wsX0_shows := goodIn_r _ [16, 17, 18, 19, 4, 5, 6, 7, 8, 9, 10, 20, 21, 22, 23, 24, 25, 26, 27, 28, 29, 30, 31, 32, 33, 34, 35, 36, 37, 38, 39, 40, 41, 42, 43, 44, 45, 46, 47, 48, 49] (by decide +kernel) (by decide +kernel)
set_option maxRecDepth 20000 in
theorem gX5_shows_X0_shows_s19 : GoodIn wsX5_shows (va_wsSU RX5 19 yX0_shows wsX0_shows) := goodIn_app (goodIn_of _ (by decide +kernel)) ggX5_shows_X0_shows
theorem dX5_shows_0 : decode cX5_shows 0 = .ok (.aload_n 0, 1) := by decide +kernel
theorem dX5_shows_1 : decode cX5_shows 1 = .ok (.getfield 7, 3) := by decide +kernel
theorem dX5_shows_4 : decode cX5_shows 4 = .ok (.bipush 40, 2) := by decide +kernel
theorem dX5_shows_6 : decode cX5_shows 6 = .ok (.invokevirtual 13, 3) := by decide +kernel
theorem dX5_shows_9 : decode cX5_shows 9 = .ok (.iconst 0, 1) := by decide +kernel
theorem dX5_shows_10 : decode cX5_shows 10 = .ok (.aload_n 0, 1) := by decide +kernel
theorem dX5_shows_11 : decode cX5_shows 11 = .ok (.iload_n 1, 1) := by decide +kernel
theorem dX5_shows_12 : decode cX5_shows 12 = .ok (.invokespecial 19, 3) := by decide +kernel
theorem dX5_shows_15 : decode cX5_shows 15 = .ok (.isub, 1) := by decide +kernel
theorem dX5_shows_16 : decode cX5_shows 16 = .ok (.ireturn, 1) := by decide +kernel
set_option maxRecDepth 20000 in
theorem ggX5_moves_X9_begin : GoodIn wsX5_moves wsX9_begin := goodIn_r _ [9, 10, 11, 12, 54, 55, 56] (by decide +kernel) (by decide +kernel)
set_option maxRecDepth 20000 in
theorem gX5_moves_X9_begin : GoodIn wsX5_moves (wsV RX5 13 RX9 yX9_begin wsX9_begin) := goodIn_app (goodIn_of _ (by decide +kernel)) ggX5_moves_X9_begin
set_option maxRecDepth 20000 in
theorem ggX5_moves_X5_shows : GoodIn wsX5_moves wsX5_shows := goodIn_r _ [17, 1, 2, 5, 6, 7, 8, 9, 10, 11, 12, 18, 19, 20, 21, 22, 23, 24, 25, 26, 27, 28, 29, 30, 31, 32, 33, 34, 35, 36, 37, 38, 39, 40, 41, 42, 43, 44, 45, 46, 47, 48, 49, 50, 51, 52, 53, 54, 55, 56] (by decide +kernel) (by decide +kernel)
set_option maxRecDepth 20000 in
theorem gX5_moves_X5_shows : GoodIn wsX5_moves (wsV RX5 30 RX5 yX5_shows wsX5_shows) := goodIn_app (goodIn_of _ (by decide +kernel)) ggX5_moves_X5_shows
theorem dX5_moves_0 : decode cX5_moves 0 = .ok (.aload_n 0, 1) := by decide +kernel
theorem dX5_moves_1 : decode cX5_moves 1 = .ok (.getfield 7, 3) := by decide +kernel
theorem dX5_moves_4 : decode cX5_moves 4 = .ok (.bipush 41, 2) := by decide +kernel
theorem dX5_moves_6 : decode cX5_moves 6 = .ok (.invokevirtual 13, 3) := by decide +kernel
theorem dX5_moves_9 : decode cX5_moves 9 = .ok (.aload_n 0, 1) := by decide +kernel
theorem dX5_moves_10 : decode cX5_moves 10 = .ok (.iload_n 1, 1) := by decide +kernel
theorem dX5_moves_11 : decode cX5_moves 11 = .ok (.invokespecial 23, 3) := by decide +kernel
theorem dX5_moves_14 : decode cX5_moves 14 = .ok (.aload_n 0, 1) := by decide +kernel
theorem dX5_moves_15 : decode cX5_moves 15 = .ok (.aload_n 0, 1) := by decide +kernel
theorem dX5_moves_16 : decode cX5_moves 16 = .ok (.getfield 26, 3) := by decide +kernel
theorem dX5_moves_19 : decode cX5_moves 19 = .ok (.invokevirtual 30, 3) := by decide +kernel
theorem dX5_moves_22 : decode cX5_moves 22 = .ok (.iadd, 1) := by decide +kernel
theorem dX5_moves_23 : decode cX5_moves 23 = .ok (.ireturn, 1) := by decide +kernel
theorem dX6_init_0 : decode cX6_init 0 = .ok (.aload_n 0, 1) := by decide +kernel
theorem dX6_init_1 : decode cX6_init 1 = .ok (.invokespecial 3, 3) := by decide +kernel
theorem dX6_init_4 : decode cX6_init 4 = .ok (.aload_n 0, 1) := by decide +kernel
theorem dX6_init_5 : decode cX6_init 5 = .ok (.iload_n 1, 1) := by decide +kernel
theorem dX6_init_6 : decode cX6_init 6 = .ok (.putfield 9, 3) := by decide +kernel
theorem dX6_init_9 : decode cX6_init 9 = .ok (.aload_n 0, 1) := by decide +kernel
theorem dX6_init_10 : decode cX6_init 10 = .ok (.iload_n 2, 1) := by decide +kernel
theorem dX6_init_11 : decode cX6_init 11 = .ok (.newarray .int, 2) := by decide +kernel
theorem dX6_init_13 : decode cX6_init 13 = .ok (.putfield 15, 3) := by decide +kernel
theorem dX6_init_16 : decode cX6_init 16 = .ok (.return_, 1) := by decide +kernel
theorem dX6_has_0 : decode cX6_has 0 = .ok (.iload_n 1, 1) := by decide +kernel
theorem dX6_has_1 : decode cX6_has 1 = .ok (.ifCond .lt 16, 3) := by decide +kernel
theorem dX6_has_4 : decode cX6_has 4 = .ok (.iload_n 1, 1) := by decide +kernel
theorem dX6_has_5 : decode cX6_has 5 = .ok (.aload_n 0, 1) := by decide +kernel
theorem dX6_has_6 : decode cX6_has 6 = .ok (.getfield 15, 3) := by decide +kernel
theorem dX6_has_9 : decode cX6_has 9 = .ok (.arraylength, 1) := by decide +kernel
theorem dX6_has_10 : decode cX6_has 10 = .ok (.if_icmp .ge 7, 3) := by decide +kernel
theorem dX6_has_13 : decode cX6_has 13 = .ok (.iconst 1, 1) := by decide +kernel
theorem dX6_has_14 : decode cX6_has 14 = .ok (.goto 4, 3) := by decide +kernel
theorem dX6_has_17 : decode cX6_has 17 = .ok (.iconst 0, 1) := by decide +kernel
theorem dX6_has_18 : decode cX6_has 18 = .ok (.ireturn, 1) := by decide +kernel
theorem dX6_narrowed_0 : decode cX6_narrowed 0 = .ok (.aload_n 0, 1) := by decide +kernel
theorem dX6_narrowed_1 : decode cX6_narrowed 1 = .ok (.getfield 9, 3) := by decide +kernel
theorem dX6_narrowed_4 : decode cX6_narrowed 4 = .ok (.lookupswitch 34 #[(0, 28), (1, 31)], 28) := by decide +kernel
theorem dX6_narrowed_32 : decode cX6_narrowed 32 = .ok (.iload_n 1, 1) := by decide +kernel
theorem dX6_narrowed_33 : decode cX6_narrowed 33 = .ok (.i2b, 1) := by decide +kernel
theorem dX6_narrowed_34 : decode cX6_narrowed 34 = .ok (.ireturn, 1) := by decide +kernel
theorem dX6_narrowed_35 : decode cX6_narrowed 35 = .ok (.iload_n 1, 1) := by decide +kernel
theorem dX6_narrowed_36 : decode cX6_narrowed 36 = .ok (.i2s, 1) := by decide +kernel
theorem dX6_narrowed_37 : decode cX6_narrowed 37 = .ok (.ireturn, 1) := by decide +kernel
theorem dX6_narrowed_38 : decode cX6_narrowed 38 = .ok (.iload_n 1, 1) := by decide +kernel
theorem dX6_narrowed_39 : decode cX6_narrowed 39 = .ok (.ireturn, 1) := by decide +kernel
set_option maxRecDepth 20000 in
theorem ggX7_init_X8_init : GoodIn wsX7_init wsX8_init := goodIn_r _ [4, 5, 6, 7, 8, 9, 10, 11, 12, 13, 14, 15, 16, 17, 18, 19, 20, 21, 22, 23, 24, 25, 26, 27, 28] (by decide +kernel) (by decide +kernel)
set_option maxRecDepth 20000 in
theorem gX7_init_X8_init : GoodIn wsX7_init (wsX8_init) := ggX7_init_X8_init
theorem dX7_init_0 : decode cX7_init 0 = .ok (.aload_n 0, 1) := by decide +kernel
theorem dX7_init_1 : decode cX7_init 1 = .ok (.iload_n 1, 1) := by decide +kernel
theorem dX7_init_2 : decode cX7_init 2 = .ok (.iload_n 2, 1) := by decide +kernel
theorem dX7_init_3 : decode cX7_init 3 = .ok (.aload_n 3, 1) := by decide +kernel
theorem dX7_init_4 : decode cX7_init 4 = .ok (.invokespecial 1, 3) := by decide +kernel
theorem dX7_init_7 : decode cX7_init 7 = .ok (.return_, 1) := by decide +kernel
set_option maxRecDepth 20000 in
theorem ggX7_moves_X9_begin : GoodIn wsX7_moves wsX9_begin := goodIn_r _ [9, 10, 11, 12, 77, 78, 79] (by decide +kernel) (by decide +kernel)
set_option maxRecDepth 20000 in
theorem gX7_moves_X9_begin : GoodIn wsX7_moves (wsV RX7 13 RX9 yX9_begin wsX9_begin) := goodIn_app (goodIn_of _ (by decide +kernel)) ggX7_moves_X9_begin
set_option maxRecDepth 20000 in
theorem ggX7_moves_X8_moves : GoodIn wsX7_moves wsX8_moves := goodIn_r _ [18, 19, 20, 6, 7, 8, 9, 10, 11, 12, 21, 22, 23, 24, 25, 26, 27, 28, 29, 30, 31, 32, 33, 17, 34, 35, 36, 37, 38, 39, 40, 41, 42, 43, 44, 45, 46, 47, 48, 49, 50, 51, 52, 53, 54, 55, 56, 57, 58, 59, 60, 61, 62, 63, 64, 65, 66, 67, 68, 69, 70, 71, 72, 73, 74, 75, 76, 77, 78, 79] (by decide +kernel) (by decide +kernel)
set_option maxRecDepth 20000 in
theorem gX7_moves_X8_moves_s19 : GoodIn wsX7_moves (va_wsSU RX7 19 yX8_moves wsX8_moves) := goodIn_app (goodIn_of _ (by decide +kernel)) ggX7_moves_X8_moves
theorem dX7_moves_0 : decode cX7_moves 0 = .ok (.aload_n 0, 1) := by decide +kernel
theorem dX7_moves_1 : decode cX7_moves 1 = .ok (.getfield 7, 3) := by decide +kernel
theorem dX7_moves_4 : decode cX7_moves 4 = .ok (.bipush 20, 2) := by decide +kernel
theorem dX7_moves_6 : decode cX7_moves 6 = .ok (.invokevirtual 13, 3) := by decide +kernel
theorem dX7_moves_9 : decode cX7_moves 9 = .ok (.aload_n 0, 1) := by decide +kernel
theorem dX7_moves_10 : decode cX7_moves 10 = .ok (.iload_n 1, 1) := by decide +kernel
theorem dX7_moves_11 : decode cX7_moves 11 = .ok (.invokespecial 19, 3) := by decide +kernel
theorem dX7_moves_14 : decode cX7_moves 14 = .ok (.aload_n 0, 1) := by decide +kernel
theorem dX7_moves_15 : decode cX7_moves 15 = .ok (.getfield 23, 3) := by decide +kernel
theorem dX7_moves_18 : decode cX7_moves 18 = .ok (.isub, 1) := by decide +kernel
theorem dX7_moves_19 : decode cX7_moves 19 = .ok (.ireturn, 1) := by decide +kernel
theorem dX8_init_0 : decode cX8_init 0 = .ok (.aload_n 0, 1) := by decide +kernel
theorem dX8_init_1 : decode cX8_init 1 = .ok (.invokespecial 1, 3) := by decide +kernel
theorem dX8_init_4 : decode cX8_init 4 = .ok (.aload_n 0, 1) := by decide +kernel
theorem dX8_init_5 : decode cX8_init 5 = .ok (.iload_n 1, 1) := by decide +kernel
theorem dX8_init_6 : decode cX8_init 6 = .ok (.putfield 7, 3) := by decide +kernel
theorem dX8_init_9 : decode cX8_init 9 = .ok (.aload_n 0, 1) := by decide +kernel
theorem dX8_init_10 : decode cX8_init 10 = .ok (.iload_n 2, 1) := by decide +kernel
theorem dX8_init_11 : decode cX8_init 11 = .ok (.putfield 13, 3) := by decide +kernel
theorem dX8_init_14 : decode cX8_init 14 = .ok (.aload_n 0, 1) := by decide +kernel
theorem dX8_init_15 : decode cX8_init 15 = .ok (.aload_n 3, 1) := by decide +kernel
theorem dX8_init_16 : decode cX8_init 16 = .ok (.putfield 16, 3) := by decide +kernel
theorem dX8_init_19 : decode cX8_init 19 = .ok (.return_, 1) := by decide +kernel
set_option maxRecDepth 20000 in
theorem ggX8_shows_X9_begin : GoodIn wsX8_shows wsX9_begin := goodIn_r _ [7, 8, 9, 10, 29, 30, 31] (by decide +kernel) (by decide +kernel)
set_option maxRecDepth 20000 in
theorem gX8_shows_X9_begin : GoodIn wsX8_shows (wsV RX8 20 RX9 yX9_begin wsX9_begin) := goodIn_app (goodIn_of _ (by decide +kernel)) ggX8_shows_X9_begin
theorem dX8_shows_0 : decode cX8_shows 0 = .ok (.aload_n 0, 1) := by decide +kernel
theorem dX8_shows_1 : decode cX8_shows 1 = .ok (.getfield 16, 3) := by decide +kernel
theorem dX8_shows_4 : decode cX8_shows 4 = .ok (.bipush 10, 2) := by decide +kernel
theorem dX8_shows_6 : decode cX8_shows 6 = .ok (.invokevirtual 20, 3) := by decide +kernel
theorem dX8_shows_9 : decode cX8_shows 9 = .ok (.iload_n 1, 1) := by decide +kernel
theorem dX8_shows_10 : decode cX8_shows 10 = .ok (.aload_n 0, 1) := by decide +kernel
theorem dX8_shows_11 : decode cX8_shows 11 = .ok (.getfield 7, 3) := by decide +kernel
theorem dX8_shows_14 : decode cX8_shows 14 = .ok (.iadd, 1) := by decide +kernel
theorem dX8_shows_15 : decode cX8_shows 15 = .ok (.ireturn, 1) := by decide +kernel
set_option maxRecDepth 20000 in
theorem ggX8_moves_X9_begin : GoodIn wsX8_moves wsX9_begin := goodIn_r _ [6, 7, 8, 9, 67, 68, 69] (by decide +kernel) (by decide +kernel)
set_option maxRecDepth 20000 in
theorem gX8_moves_X9_begin : GoodIn wsX8_moves (wsV RX8 20 RX9 yX9_begin wsX9_begin) := goodIn_app (goodIn_of _ (by decide +kernel)) ggX8_moves_X9_begin
set_option maxRecDepth 20000 in
theorem ggX8_moves_X0_shows : GoodIn wsX8_moves wsX0_shows := goodIn_r _ [16, 17, 18, 19, 3, 4, 5, 6, 7, 8, 9, 20, 11, 21, 22, 23, 24, 1, 25, 2, 49, 50, 51, 52, 53, 54, 55, 56, 57, 58, 59, 60, 61, 62, 63, 64, 65, 66, 67, 68, 69] (by decide +kernel) (by decide +kernel)
set_option maxRecDepth 20000 in
theorem gX8_moves_X0_shows_u26X0 : GoodIn wsX8_moves (va_wsO RX8 26 RX0 "SlowPanes$Thing" ⟨"SlowPanes$Thing", "shows", "(I)I"⟩ yX0_shows wsX0_shows) := goodIn_app (goodIn_of _ (by decide +kernel)) ggX8_moves_X0_shows
set_option maxRecDepth 20000 in
theorem ggX8_moves_X1_shows : GoodIn wsX8_moves wsX1_shows := goodIn_r _ [29, 30, 31, 32, 33, 34, 3, 4, 5, 6, 7, 8, 9, 49, 50, 51, 52, 53, 54, 55, 56, 57, 58, 59, 60, 61, 62, 63, 64, 65, 66, 67, 68, 69] (by decide +kernel) (by decide +kernel)
set_option maxRecDepth 20000 in
theorem gX8_moves_X1_shows_u26X1 : GoodIn wsX8_moves (va_wsO RX8 26 RX1 "SlowPanes$Thing" ⟨"SlowPanes$Thing", "shows", "(I)I"⟩ yX1_shows wsX1_shows) := goodIn_app (goodIn_of _ (by decide +kernel)) ggX8_moves_X1_shows
set_option maxRecDepth 20000 in
theorem ggX8_moves_X8_shows : GoodIn wsX8_moves wsX8_shows := goodIn_r _ [24, 1, 25, 2, 3, 4, 5, 6, 7, 8, 9, 49, 50, 51, 52, 53, 54, 55, 56, 57, 58, 59, 60, 61, 62, 63, 64, 65, 66, 67, 68, 69] (by decide +kernel) (by decide +kernel)
set_option maxRecDepth 20000 in
theorem gX8_moves_X8_shows_u26X2 : GoodIn wsX8_moves (va_wsU RX8 26 RX2 "SlowPanes$Thing" ⟨"SlowPanes$Thing", "shows", "(I)I"⟩ yX8_shows wsX8_shows) := goodIn_app (goodIn_of _ (by decide +kernel)) ggX8_moves_X8_shows
set_option maxRecDepth 20000 in
theorem ggX8_moves_X5_shows : GoodIn wsX8_moves wsX5_shows := goodIn_r _ [39, 40, 41, 42, 3, 4, 5, 6, 7, 8, 9, 43, 44, 45, 14, 15, 16, 17, 18, 19, 20, 11, 21, 22, 23, 24, 1, 25, 2, 49, 50, 51, 52, 53, 54, 55, 56, 57, 58, 59, 60, 61, 62, 63, 64, 65, 66, 67, 68, 69] (by decide +kernel) (by decide +kernel)
set_option maxRecDepth 20000 in
theorem gX8_moves_X5_shows_u26X5 : GoodIn wsX8_moves (va_wsO RX8 26 RX5 "SlowPanes$Thing" ⟨"SlowPanes$Thing", "shows", "(I)I"⟩ yX5_shows wsX5_shows) := goodIn_app (goodIn_of _ (by decide +kernel)) ggX8_moves_X5_shows
set_option maxRecDepth 20000 in
theorem gX8_moves_X8_shows_u26X7 : GoodIn wsX8_moves (va_wsU RX8 26 RX7 "SlowPanes$Thing" ⟨"SlowPanes$Thing", "shows", "(I)I"⟩ yX8_shows wsX8_shows) := goodIn_app (goodIn_of _ (by decide +kernel)) ggX8_moves_X8_shows
set_option maxRecDepth 20000 in
theorem gX8_moves_X8_shows : GoodIn wsX8_moves (wsV RX8 26 RX8 yX8_shows wsX8_shows) := goodIn_app (goodIn_of _ (by decide +kernel)) ggX8_moves_X8_shows
theorem dX8_moves_0 : decode cX8_moves 0 = .ok (.aload_n 0, 1) := by decide +kernel
theorem dX8_moves_1 : decode cX8_moves 1 = .ok (.getfield 16, 3) := by decide +kernel
theorem dX8_moves_4 : decode cX8_moves 4 = .ok (.bipush 11, 2) := by decide +kernel
theorem dX8_moves_6 : decode cX8_moves 6 = .ok (.invokevirtual 20, 3) := by decide +kernel
theorem dX8_moves_9 : decode cX8_moves 9 = .ok (.aload_n 0, 1) := by decide +kernel
theorem dX8_moves_10 : decode cX8_moves 10 = .ok (.iload_n 1, 1) := by decide +kernel
theorem dX8_moves_11 : decode cX8_moves 11 = .ok (.invokevirtual 26, 3) := by decide +kernel
theorem dX8_moves_14 : decode cX8_moves 14 = .ok (.iconst 2, 1) := by decide +kernel
theorem dX8_moves_15 : decode cX8_moves 15 = .ok (.imul, 1) := by decide +kernel
theorem dX8_moves_16 : decode cX8_moves 16 = .ok (.ireturn, 1) := by decide +kernel
set_option maxRecDepth 20000 in
theorem ggX8_shares_X9_begin : GoodIn wsX8_shares wsX9_begin := goodIn_r _ [8, 9, 10, 11, 34, 35, 36] (by decide +kernel) (by decide +kernel)
set_option maxRecDepth 20000 in
theorem gX8_shares_X9_begin : GoodIn wsX8_shares (wsV RX8 20 RX9 yX9_begin wsX9_begin) := goodIn_app (goodIn_of _ (by decide +kernel)) ggX8_shares_X9_begin
set_option maxRecDepth 20000 in
theorem ggX8_shares_X9_part : GoodIn wsX8_shares wsX9_part := goodIn_r _ [15, 9, 34, 35, 36] (by decide +kernel) (by decide +kernel)
set_option maxRecDepth 20000 in
theorem gX8_shares_X9_part : GoodIn wsX8_shares (wsV RX8 30 RX9 yX9_part wsX9_part) := goodIn_app (goodIn_of _ (by decide +kernel)) ggX8_shares_X9_part
theorem dX8_shares_0 : decode cX8_shares 0 = .ok (.aload_n 0, 1) := by decide +kernel
theorem dX8_shares_1 : decode cX8_shares 1 = .ok (.getfield 16, 3) := by decide +kernel
theorem dX8_shares_4 : decode cX8_shares 4 = .ok (.bipush 12, 2) := by decide +kernel
theorem dX8_shares_6 : decode cX8_shares 6 = .ok (.invokevirtual 20, 3) := by decide +kernel
theorem dX8_shares_9 : decode cX8_shares 9 = .ok (.aload_n 0, 1) := by decide +kernel
theorem dX8_shares_10 : decode cX8_shares 10 = .ok (.getfield 16, 3) := by decide +kernel
theorem dX8_shares_13 : decode cX8_shares 13 = .ok (.iload_n 1, 1) := by decide +kernel
theorem dX8_shares_14 : decode cX8_shares 14 = .ok (.aload_n 0, 1) := by decide +kernel
theorem dX8_shares_15 : decode cX8_shares 15 = .ok (.getfield 13, 3) := by decide +kernel
theorem dX8_shares_18 : decode cX8_shares 18 = .ok (.aload_n 0, 1) := by decide +kernel
theorem dX8_shares_19 : decode cX8_shares 19 = .ok (.getfield 7, 3) := by decide +kernel
theorem dX8_shares_22 : decode cX8_shares 22 = .ok (.isub, 1) := by decide +kernel
theorem dX8_shares_23 : decode cX8_shares 23 = .ok (.invokevirtual 30, 3) := by decide +kernel
theorem dX8_shares_26 : decode cX8_shares 26 = .ok (.ireturn, 1) := by decide +kernel
set_option maxRecDepth 20000 in
theorem ggX8_tells_X9_begin : GoodIn wsX8_tells wsX9_begin := goodIn_r _ [7, 8, 9, 10, 96, 97, 98] (by decide +kernel) (by decide +kernel)
set_option maxRecDepth 20000 in
theorem gX8_tells_X9_begin : GoodIn wsX8_tells (wsV RX8 20 RX9 yX9_begin wsX9_begin) := goodIn_app (goodIn_of _ (by decide +kernel)) ggX8_tells_X9_begin
set_option maxRecDepth 20000 in
theorem ggX8_tells_X8_moves : GoodIn wsX8_tells wsX8_moves := goodIn_r _ [16, 1, 3, 4, 5, 6, 7, 8, 9, 10, 17, 18, 19, 20, 21, 22, 23, 24, 25, 26, 27, 28, 29, 15, 30, 31, 32, 33, 34, 35, 36, 37, 38, 39, 40, 41, 42, 43, 44, 45, 46, 47, 48, 49, 50, 51, 52, 53, 54, 78, 79, 80, 81, 82, 83, 84, 85, 86, 87, 88, 89, 90, 91, 92, 93, 94, 95, 96, 97, 98] (by decide +kernel) (by decide +kernel)
set_option maxRecDepth 20000 in
theorem gX8_tells_X8_moves_u34X0 : GoodIn wsX8_tells (va_wsU RX8 34 RX0 "SlowPanes$Thing" ⟨"SlowPanes$Thing", "moves", "(I)I"⟩ yX8_moves wsX8_moves) := goodIn_app (goodIn_of _ (by decide +kernel)) ggX8_tells_X8_moves
set_option maxRecDepth 20000 in
theorem ggX8_tells_X7_moves : GoodIn wsX8_tells wsX7_moves := goodIn_r _ [59, 60, 61, 62, 63, 64, 4, 5, 6, 7, 8, 9, 10, 65, 12, 66, 14, 15, 16, 1, 3, 17, 18, 19, 20, 21, 22, 23, 24, 25, 26, 27, 28, 29, 30, 31, 32, 33, 34, 35, 36, 37, 38, 39, 40, 41, 42, 43, 44, 45, 46, 47, 48, 49, 50, 51, 52, 53, 54, 78, 79, 80, 81, 82, 83, 84, 85, 86, 87, 88, 89, 90, 91, 92, 93, 94, 95, 96, 97, 98] (by decide +kernel) (by decide +kernel)
set_option maxRecDepth 20000 in
theorem gX8_tells_X7_moves_u34X1 : GoodIn wsX8_tells (va_wsO RX8 34 RX1 "SlowPanes$Thing" ⟨"SlowPanes$Thing", "moves", "(I)I"⟩ yX7_moves wsX7_moves) := goodIn_app (goodIn_of _ (by decide +kernel)) ggX8_tells_X7_moves
set_option maxRecDepth 20000 in
theorem gX8_tells_X8_moves_u34X2 : GoodIn wsX8_tells (va_wsU RX8 34 RX2 "SlowPanes$Thing" ⟨"SlowPanes$Thing", "moves", "(I)I"⟩ yX8_moves wsX8_moves) := goodIn_app (goodIn_of _ (by decide +kernel)) ggX8_tells_X8_moves
set_option maxRecDepth 20000 in
theorem ggX8_tells_X5_moves : GoodIn wsX8_tells wsX5_moves := goodIn_r _ [70, 46, 47, 71, 72, 48, 4, 5, 6, 7, 8, 9, 10, 73, 43, 74, 44, 45, 49, 50, 51, 21, 22, 23, 24, 25, 26, 27, 18, 28, 29, 15, 30, 1, 31, 3, 78, 79, 80, 81, 82, 83, 84, 85, 86, 87, 88, 89, 90, 91, 92, 93, 94, 95, 96, 97, 98] (by decide +kernel) (by decide +kernel)
set_option maxRecDepth 20000 in
theorem gX8_tells_X5_moves_u34X5 : GoodIn wsX8_tells (va_wsO RX8 34 RX5 "SlowPanes$Thing" ⟨"SlowPanes$Thing", "moves", "(I)I"⟩ yX5_moves wsX5_moves) := goodIn_app (goodIn_of _ (by decide +kernel)) ggX8_tells_X5_moves
set_option maxRecDepth 20000 in
theorem gX8_tells_X7_moves_u34X7 : GoodIn wsX8_tells (va_wsO RX8 34 RX7 "SlowPanes$Thing" ⟨"SlowPanes$Thing", "moves", "(I)I"⟩ yX7_moves wsX7_moves) := goodIn_app (goodIn_of _ (by decide +kernel)) ggX8_tells_X7_moves
set_option maxRecDepth 20000 in
theorem gX8_tells_X8_moves : GoodIn wsX8_tells (wsV RX8 34 RX8 yX8_moves wsX8_moves) := goodIn_app (goodIn_of _ (by decide +kernel)) ggX8_tells_X8_moves
theorem dX8_tells_0 : decode cX8_tells 0 = .ok (.aload_n 0, 1) := by decide +kernel
theorem dX8_tells_1 : decode cX8_tells 1 = .ok (.getfield 16, 3) := by decide +kernel
theorem dX8_tells_4 : decode cX8_tells 4 = .ok (.bipush 13, 2) := by decide +kernel
theorem dX8_tells_6 : decode cX8_tells 6 = .ok (.invokevirtual 20, 3) := by decide +kernel
theorem dX8_tells_9 : decode cX8_tells 9 = .ok (.aload_n 0, 1) := by decide +kernel
theorem dX8_tells_10 : decode cX8_tells 10 = .ok (.iload_n 1, 1) := by decide +kernel
theorem dX8_tells_11 : decode cX8_tells 11 = .ok (.invokevirtual 34, 3) := by decide +kernel
theorem dX8_tells_14 : decode cX8_tells 14 = .ok (.aload_n 0, 1) := by decide +kernel
theorem dX8_tells_15 : decode cX8_tells 15 = .ok (.getfield 13, 3) := by decide +kernel
theorem dX8_tells_18 : decode cX8_tells 18 = .ok (.ixor, 1) := by decide +kernel
theorem dX8_tells_19 : decode cX8_tells 19 = .ok (.ireturn, 1) := by decide +kernel
theorem dX9_init_0 : decode cX9_init 0 = .ok (.aload_n 0, 1) := by decide +kernel
theorem dX9_init_1 : decode cX9_init 1 = .ok (.invokespecial 3, 3) := by decide +kernel
theorem dX9_init_4 : decode cX9_init 4 = .ok (.aload_n 0, 1) := by decide +kernel
theorem dX9_init_5 : decode cX9_init 5 = .ok (.bipush 30, 2) := by decide +kernel
theorem dX9_init_7 : decode cX9_init 7 = .ok (.newarray .int, 2) := by decide +kernel
theorem dX9_init_9 : decode cX9_init 9 = .ok (.putfield 9, 3) := by decide +kernel
theorem dX9_init_12 : decode cX9_init 12 = .ok (.aload_n 0, 1) := by decide +kernel
theorem dX9_init_13 : decode cX9_init 13 = .ok (.iconst 0, 1) := by decide +kernel
theorem dX9_init_14 : decode cX9_init 14 = .ok (.putfield 15, 3) := by decide +kernel
theorem dX9_init_17 : decode cX9_init 17 = .ok (.aload_n 0, 1) := by decide +kernel
theorem dX9_init_18 : decode cX9_init 18 = .ok (.iconst 0, 1) := by decide +kernel
theorem dX9_init_19 : decode cX9_init 19 = .ok (.putfield 19, 3) := by decide +kernel
theorem dX9_init_22 : decode cX9_init 22 = .ok (.return_, 1) := by decide +kernel
theorem dX9_clear_0 : decode cX9_clear 0 = .ok (.aload_n 0, 1) := by decide +kernel
theorem dX9_clear_1 : decode cX9_clear 1 = .ok (.iconst 0, 1) := by decide +kernel
theorem dX9_clear_2 : decode cX9_clear 2 = .ok (.putfield 15, 3) := by decide +kernel
theorem dX9_clear_5 : decode cX9_clear 5 = .ok (.aload_n 0, 1) := by decide +kernel
theorem dX9_clear_6 : decode cX9_clear 6 = .ok (.iconst 0, 1) := by decide +kernel
theorem dX9_clear_7 : decode cX9_clear 7 = .ok (.putfield 19, 3) := by decide +kernel
theorem dX9_clear_10 : decode cX9_clear 10 = .ok (.return_, 1) := by decide +kernel
theorem dX9_begin_0 : decode cX9_begin 0 = .ok (.aload_n 0, 1) := by decide +kernel
theorem dX9_begin_1 : decode cX9_begin 1 = .ok (.getfield 19, 3) := by decide +kernel
theorem dX9_begin_4 : decode cX9_begin 4 = .ok (.ifCond .ne 32, 3) := by decide +kernel
theorem dX9_begin_7 : decode cX9_begin 7 = .ok (.aload_n 0, 1) := by decide +kernel
theorem dX9_begin_8 : decode cX9_begin 8 = .ok (.getfield 15, 3) := by decide +kernel
theorem dX9_begin_11 : decode cX9_begin 11 = .ok (.bipush 30, 2) := by decide +kernel
theorem dX9_begin_13 : decode cX9_begin 13 = .ok (.if_icmp .ge 23, 3) := by decide +kernel
theorem dX9_begin_16 : decode cX9_begin 16 = .ok (.aload_n 0, 1) := by decide +kernel
theorem dX9_begin_17 : decode cX9_begin 17 = .ok (.getfield 9, 3) := by decide +kernel
theorem dX9_begin_20 : decode cX9_begin 20 = .ok (.aload_n 0, 1) := by decide +kernel
theorem dX9_begin_21 : decode cX9_begin 21 = .ok (.getfield 15, 3) := by decide +kernel
theorem dX9_begin_24 : decode cX9_begin 24 = .ok (.iload_n 1, 1) := by decide +kernel
theorem dX9_begin_25 : decode cX9_begin 25 = .ok (.iastore, 1) := by decide +kernel
theorem dX9_begin_26 : decode cX9_begin 26 = .ok (.aload_n 0, 1) := by decide +kernel
theorem dX9_begin_27 : decode cX9_begin 27 = .ok (.dup, 1) := by decide +kernel
theorem dX9_begin_28 : decode cX9_begin 28 = .ok (.getfield 15, 3) := by decide +kernel
theorem dX9_begin_31 : decode cX9_begin 31 = .ok (.iconst 1, 1) := by decide +kernel
theorem dX9_begin_32 : decode cX9_begin 32 = .ok (.iadd, 1) := by decide +kernel
theorem dX9_begin_33 : decode cX9_begin 33 = .ok (.putfield 15, 3) := by decide +kernel
theorem dX9_begin_36 : decode cX9_begin 36 = .ok (.return_, 1) := by decide +kernel
theorem dX9_part_0 : decode cX9_part 0 = .ok (.iload_n 2, 1) := by decide +kernel
theorem dX9_part_1 : decode cX9_part 1 = .ok (.ifCond .ne 10, 3) := by decide +kernel
theorem dX9_part_4 : decode cX9_part 4 = .ok (.aload_n 0, 1) := by decide +kernel
theorem dX9_part_5 : decode cX9_part 5 = .ok (.iconst 1, 1) := by decide +kernel
theorem dX9_part_6 : decode cX9_part 6 = .ok (.putfield 19, 3) := by decide +kernel
theorem dX9_part_9 : decode cX9_part 9 = .ok (.iconst 0, 1) := by decide +kernel
theorem dX9_part_10 : decode cX9_part 10 = .ok (.ireturn, 1) := by decide +kernel
theorem dX9_part_11 : decode cX9_part 11 = .ok (.iload_n 1, 1) := by decide +kernel
theorem dX9_part_12 : decode cX9_part 12 = .ok (.iload_n 2, 1) := by decide +kernel
theorem dX9_part_13 : decode cX9_part 13 = .ok (.idiv, 1) := by decide +kernel
theorem dX9_part_14 : decode cX9_part 14 = .ok (.ireturn, 1) := by decide +kernel
set_option maxRecDepth 20000 in
theorem ggX10_init_X3_init : GoodIn wsX10_init wsX3_init := goodIn_r _ [15, 16, 2, 3, 4, 17, 18, 19, 20, 21, 28, 29, 30, 31, 32] (by decide +kernel) (by decide +kernel)
set_option maxRecDepth 20000 in
theorem gX10_init_X3_init_n34 : GoodIn wsX10_init (wsX3_init) := ggX10_init_X3_init
theorem dX10_init_0 : decode cX10_init 0 = .ok (.aload_n 0, 1) := by decide +kernel
theorem dX10_init_1 : decode cX10_init 1 = .ok (.invokespecial 3, 3) := by decide +kernel
theorem dX10_init_4 : decode cX10_init 4 = .ok (.aload_n 0, 1) := by decide +kernel
theorem dX10_init_5 : decode cX10_init 5 = .ok (.sipush 200, 3) := by decide +kernel
theorem dX10_init_8 : decode cX10_init 8 = .ok (.newarray .int, 2) := by decide +kernel
theorem dX10_init_10 : decode cX10_init 10 = .ok (.putfield 9, 3) := by decide +kernel
theorem dX10_init_13 : decode cX10_init 13 = .ok (.aload_n 0, 1) := by decide +kernel
theorem dX10_init_14 : decode cX10_init 14 = .ok (.bipush 12, 2) := by decide +kernel
theorem dX10_init_16 : decode cX10_init 16 = .ok (.newarray .int, 2) := by decide +kernel
theorem dX10_init_18 : decode cX10_init 18 = .ok (.putfield 15, 3) := by decide +kernel
theorem dX10_init_21 : decode cX10_init 21 = .ok (.aload_n 0, 1) := by decide +kernel
theorem dX10_init_22 : decode cX10_init 22 = .ok (.bipush 6, 2) := by decide +kernel
theorem dX10_init_24 : decode cX10_init 24 = .ok (.anewarray 18, 3) := by decide +kernel
theorem dX10_init_27 : decode cX10_init 27 = .ok (.putfield 20, 3) := by decide +kernel
theorem dX10_init_30 : decode cX10_init 30 = .ok (.aload_n 0, 1) := by decide +kernel
theorem dX10_init_31 : decode cX10_init 31 = .ok (.iconst 0, 1) := by decide +kernel
theorem dX10_init_32 : decode cX10_init 32 = .ok (.putfield 24, 3) := by decide +kernel
theorem dX10_init_35 : decode cX10_init 35 = .ok (.aload_n 0, 1) := by decide +kernel
theorem dX10_init_36 : decode cX10_init 36 = .ok (.iconst 0, 1) := by decide +kernel
theorem dX10_init_37 : decode cX10_init 37 = .ok (.putfield 28, 3) := by decide +kernel
theorem dX10_init_40 : decode cX10_init 40 = .ok (.aload_n 0, 1) := by decide +kernel
theorem dX10_init_41 : decode cX10_init 41 = .ok (.iconst 1, 1) := by decide +kernel
theorem dX10_init_42 : decode cX10_init 42 = .ok (.putfield 31, 3) := by decide +kernel
theorem dX10_init_45 : decode cX10_init 45 = .ok (.iconst 0, 1) := by decide +kernel
theorem dX10_init_46 : decode cX10_init 46 = .ok (.istore_n 1, 1) := by decide +kernel
theorem dX10_init_47 : decode cX10_init 47 = .ok (.iload_n 1, 1) := by decide +kernel
theorem dX10_init_48 : decode cX10_init 48 = .ok (.bipush 6, 2) := by decide +kernel
theorem dX10_init_50 : decode cX10_init 50 = .ok (.if_icmp .ge 22, 3) := by decide +kernel
theorem dX10_init_53 : decode cX10_init 53 = .ok (.aload_n 0, 1) := by decide +kernel
theorem dX10_init_54 : decode cX10_init 54 = .ok (.getfield 20, 3) := by decide +kernel
theorem dX10_init_57 : decode cX10_init 57 = .ok (.iload_n 1, 1) := by decide +kernel
theorem dX10_init_58 : decode cX10_init 58 = .ok (.new 18, 3) := by decide +kernel
theorem dX10_init_61 : decode cX10_init 61 = .ok (.dup, 1) := by decide +kernel
theorem dX10_init_62 : decode cX10_init 62 = .ok (.invokespecial 34, 3) := by decide +kernel
theorem dX10_init_65 : decode cX10_init 65 = .ok (.aastore, 1) := by decide +kernel
theorem dX10_init_66 : decode cX10_init 66 = .ok (.iinc 1 1, 3) := by decide +kernel
theorem dX10_init_69 : decode cX10_init 69 = .ok (.goto (-22), 3) := by decide +kernel
theorem dX10_init_72 : decode cX10_init 72 = .ok (.iconst 0, 1) := by decide +kernel
theorem dX10_init_73 : decode cX10_init 73 = .ok (.istore_n 1, 1) := by decide +kernel
theorem dX10_init_74 : decode cX10_init 74 = .ok (.iload_n 1, 1) := by decide +kernel
theorem dX10_init_75 : decode cX10_init 75 = .ok (.bipush 12, 2) := by decide +kernel
theorem dX10_init_77 : decode cX10_init 77 = .ok (.if_icmp .ge 16, 3) := by decide +kernel
theorem dX10_init_80 : decode cX10_init 80 = .ok (.aload_n 0, 1) := by decide +kernel
theorem dX10_init_81 : decode cX10_init 81 = .ok (.getfield 15, 3) := by decide +kernel
theorem dX10_init_84 : decode cX10_init 84 = .ok (.iload_n 1, 1) := by decide +kernel
theorem dX10_init_85 : decode cX10_init 85 = .ok (.iconst 1, 1) := by decide +kernel
theorem dX10_init_86 : decode cX10_init 86 = .ok (.iastore, 1) := by decide +kernel
theorem dX10_init_87 : decode cX10_init 87 = .ok (.iinc 1 1, 3) := by decide +kernel
theorem dX10_init_90 : decode cX10_init 90 = .ok (.goto (-16), 3) := by decide +kernel
theorem dX10_init_93 : decode cX10_init 93 = .ok (.return_, 1) := by decide +kernel
theorem dX10_clear_0 : decode cX10_clear 0 = .ok (.aload_n 0, 1) := by decide +kernel
theorem dX10_clear_1 : decode cX10_clear 1 = .ok (.iconst 0, 1) := by decide +kernel
theorem dX10_clear_2 : decode cX10_clear 2 = .ok (.putfield 24, 3) := by decide +kernel
theorem dX10_clear_5 : decode cX10_clear 5 = .ok (.aload_n 0, 1) := by decide +kernel
theorem dX10_clear_6 : decode cX10_clear 6 = .ok (.iconst 0, 1) := by decide +kernel
theorem dX10_clear_7 : decode cX10_clear 7 = .ok (.putfield 28, 3) := by decide +kernel
theorem dX10_clear_10 : decode cX10_clear 10 = .ok (.iconst 0, 1) := by decide +kernel
theorem dX10_clear_11 : decode cX10_clear 11 = .ok (.istore_n 1, 1) := by decide +kernel
theorem dX10_clear_12 : decode cX10_clear 12 = .ok (.iload_n 1, 1) := by decide +kernel
theorem dX10_clear_13 : decode cX10_clear 13 = .ok (.aload_n 0, 1) := by decide +kernel
theorem dX10_clear_14 : decode cX10_clear 14 = .ok (.getfield 9, 3) := by decide +kernel
theorem dX10_clear_17 : decode cX10_clear 17 = .ok (.arraylength, 1) := by decide +kernel
theorem dX10_clear_18 : decode cX10_clear 18 = .ok (.if_icmp .ge 16, 3) := by decide +kernel
theorem dX10_clear_21 : decode cX10_clear 21 = .ok (.aload_n 0, 1) := by decide +kernel
theorem dX10_clear_22 : decode cX10_clear 22 = .ok (.getfield 9, 3) := by decide +kernel
theorem dX10_clear_25 : decode cX10_clear 25 = .ok (.iload_n 1, 1) := by decide +kernel
theorem dX10_clear_26 : decode cX10_clear 26 = .ok (.iconst 0, 1) := by decide +kernel
theorem dX10_clear_27 : decode cX10_clear 27 = .ok (.iastore, 1) := by decide +kernel
theorem dX10_clear_28 : decode cX10_clear 28 = .ok (.iinc 1 1, 3) := by decide +kernel
theorem dX10_clear_31 : decode cX10_clear 31 = .ok (.goto (-19), 3) := by decide +kernel
theorem dX10_clear_34 : decode cX10_clear 34 = .ok (.iconst 0, 1) := by decide +kernel
theorem dX10_clear_35 : decode cX10_clear 35 = .ok (.istore_n 1, 1) := by decide +kernel
theorem dX10_clear_36 : decode cX10_clear 36 = .ok (.iload_n 1, 1) := by decide +kernel
theorem dX10_clear_37 : decode cX10_clear 37 = .ok (.aload_n 0, 1) := by decide +kernel
theorem dX10_clear_38 : decode cX10_clear 38 = .ok (.getfield 15, 3) := by decide +kernel
theorem dX10_clear_41 : decode cX10_clear 41 = .ok (.arraylength, 1) := by decide +kernel
theorem dX10_clear_42 : decode cX10_clear 42 = .ok (.if_icmp .ge 16, 3) := by decide +kernel
theorem dX10_clear_45 : decode cX10_clear 45 = .ok (.aload_n 0, 1) := by decide +kernel
theorem dX10_clear_46 : decode cX10_clear 46 = .ok (.getfield 15, 3) := by decide +kernel
theorem dX10_clear_49 : decode cX10_clear 49 = .ok (.iload_n 1, 1) := by decide +kernel
theorem dX10_clear_50 : decode cX10_clear 50 = .ok (.iconst 1, 1) := by decide +kernel
theorem dX10_clear_51 : decode cX10_clear 51 = .ok (.iastore, 1) := by decide +kernel
theorem dX10_clear_52 : decode cX10_clear 52 = .ok (.iinc 1 1, 3) := by decide +kernel
theorem dX10_clear_55 : decode cX10_clear 55 = .ok (.goto (-19), 3) := by decide +kernel
theorem dX10_clear_58 : decode cX10_clear 58 = .ok (.return_, 1) := by decide +kernel
set_option maxRecDepth 20000 in
theorem ggX10_copyFrom_X3_copyFrom : GoodIn wsX10_copyFrom wsX3_copyFrom := goodIn_r _ [15, 16, 17, 18, 19, 20, 21, 3, 4, 5, 28, 29, 30, 31, 32] (by decide +kernel) (by decide +kernel)
set_option maxRecDepth 20000 in
theorem gX10_copyFrom_X3_copyFrom : GoodIn wsX10_copyFrom (wsV RX10 41 RX3 yX3_copyFrom wsX3_copyFrom) := goodIn_app (goodIn_of _ (by decide +kernel)) ggX10_copyFrom_X3_copyFrom
theorem dX10_copyFrom_0 : decode cX10_copyFrom 0 = .ok (.aload_n 1, 1) := by decide +kernel
theorem dX10_copyFrom_1 : decode cX10_copyFrom 1 = .ok (.getfield 9, 3) := by decide +kernel
theorem dX10_copyFrom_4 : decode cX10_copyFrom 4 = .ok (.iconst 0, 1) := by decide +kernel
theorem dX10_copyFrom_5 : decode cX10_copyFrom 5 = .ok (.aload_n 0, 1) := by decide +kernel
theorem dX10_copyFrom_6 : decode cX10_copyFrom 6 = .ok (.getfield 9, 3) := by decide +kernel
theorem dX10_copyFrom_9 : decode cX10_copyFrom 9 = .ok (.iconst 0, 1) := by decide +kernel
theorem dX10_copyFrom_10 : decode cX10_copyFrom 10 = .ok (.aload_n 0, 1) := by decide +kernel
theorem dX10_copyFrom_11 : decode cX10_copyFrom 11 = .ok (.getfield 9, 3) := by decide +kernel
theorem dX10_copyFrom_14 : decode cX10_copyFrom 14 = .ok (.arraylength, 1) := by decide +kernel
theorem dX10_copyFrom_15 : decode cX10_copyFrom 15 = .ok (.invokestatic 35, 3) := by decide +kernel
theorem dX10_copyFrom_18 : decode cX10_copyFrom 18 = .ok (.aload_n 1, 1) := by decide +kernel
theorem dX10_copyFrom_19 : decode cX10_copyFrom 19 = .ok (.getfield 15, 3) := by decide +kernel
theorem dX10_copyFrom_22 : decode cX10_copyFrom 22 = .ok (.iconst 0, 1) := by decide +kernel
theorem dX10_copyFrom_23 : decode cX10_copyFrom 23 = .ok (.aload_n 0, 1) := by decide +kernel
theorem dX10_copyFrom_24 : decode cX10_copyFrom 24 = .ok (.getfield 15, 3) := by decide +kernel
theorem dX10_copyFrom_27 : decode cX10_copyFrom 27 = .ok (.iconst 0, 1) := by decide +kernel
theorem dX10_copyFrom_28 : decode cX10_copyFrom 28 = .ok (.aload_n 0, 1) := by decide +kernel
theorem dX10_copyFrom_29 : decode cX10_copyFrom 29 = .ok (.getfield 15, 3) := by decide +kernel
theorem dX10_copyFrom_32 : decode cX10_copyFrom 32 = .ok (.arraylength, 1) := by decide +kernel
theorem dX10_copyFrom_33 : decode cX10_copyFrom 33 = .ok (.invokestatic 35, 3) := by decide +kernel
theorem dX10_copyFrom_36 : decode cX10_copyFrom 36 = .ok (.iconst 0, 1) := by decide +kernel
theorem dX10_copyFrom_37 : decode cX10_copyFrom 37 = .ok (.istore_n 2, 1) := by decide +kernel
theorem dX10_copyFrom_38 : decode cX10_copyFrom 38 = .ok (.iload_n 2, 1) := by decide +kernel
theorem dX10_copyFrom_39 : decode cX10_copyFrom 39 = .ok (.aload_n 1, 1) := by decide +kernel
theorem dX10_copyFrom_40 : decode cX10_copyFrom 40 = .ok (.getfield 24, 3) := by decide +kernel
theorem dX10_copyFrom_43 : decode cX10_copyFrom 43 = .ok (.if_icmp .ge 24, 3) := by decide +kernel
theorem dX10_copyFrom_46 : decode cX10_copyFrom 46 = .ok (.aload_n 0, 1) := by decide +kernel
theorem dX10_copyFrom_47 : decode cX10_copyFrom 47 = .ok (.getfield 20, 3) := by decide +kernel
theorem dX10_copyFrom_50 : decode cX10_copyFrom 50 = .ok (.iload_n 2, 1) := by decide +kernel
theorem dX10_copyFrom_51 : decode cX10_copyFrom 51 = .ok (.aaload, 1) := by decide +kernel
theorem dX10_copyFrom_52 : decode cX10_copyFrom 52 = .ok (.aload_n 1, 1) := by decide +kernel
theorem dX10_copyFrom_53 : decode cX10_copyFrom 53 = .ok (.getfield 20, 3) := by decide +kernel
theorem dX10_copyFrom_56 : decode cX10_copyFrom 56 = .ok (.iload_n 2, 1) := by decide +kernel
theorem dX10_copyFrom_57 : decode cX10_copyFrom 57 = .ok (.aaload, 1) := by decide +kernel
theorem dX10_copyFrom_58 : decode cX10_copyFrom 58 = .ok (.invokevirtual 41, 3) := by decide +kernel
theorem dX10_copyFrom_61 : decode cX10_copyFrom 61 = .ok (.iinc 2 1, 3) := by decide +kernel
theorem dX10_copyFrom_64 : decode cX10_copyFrom 64 = .ok (.goto (-26), 3) := by decide +kernel
theorem dX10_copyFrom_67 : decode cX10_copyFrom 67 = .ok (.aload_n 0, 1) := by decide +kernel
theorem dX10_copyFrom_68 : decode cX10_copyFrom 68 = .ok (.aload_n 1, 1) := by decide +kernel
theorem dX10_copyFrom_69 : decode cX10_copyFrom 69 = .ok (.getfield 24, 3) := by decide +kernel
theorem dX10_copyFrom_72 : decode cX10_copyFrom 72 = .ok (.putfield 24, 3) := by decide +kernel
theorem dX10_copyFrom_75 : decode cX10_copyFrom 75 = .ok (.aload_n 0, 1) := by decide +kernel
theorem dX10_copyFrom_76 : decode cX10_copyFrom 76 = .ok (.aload_n 1, 1) := by decide +kernel
theorem dX10_copyFrom_77 : decode cX10_copyFrom 77 = .ok (.getfield 28, 3) := by decide +kernel
theorem dX10_copyFrom_80 : decode cX10_copyFrom 80 = .ok (.putfield 28, 3) := by decide +kernel
theorem dX10_copyFrom_83 : decode cX10_copyFrom 83 = .ok (.aload_n 0, 1) := by decide +kernel
theorem dX10_copyFrom_84 : decode cX10_copyFrom 84 = .ok (.aload_n 1, 1) := by decide +kernel
theorem dX10_copyFrom_85 : decode cX10_copyFrom 85 = .ok (.getfield 31, 3) := by decide +kernel
theorem dX10_copyFrom_88 : decode cX10_copyFrom 88 = .ok (.putfield 31, 3) := by decide +kernel
theorem dX10_copyFrom_91 : decode cX10_copyFrom 91 = .ok (.return_, 1) := by decide +kernel
theorem dX10_isFull_0 : decode cX10_isFull 0 = .ok (.aload_n 0, 1) := by decide +kernel
theorem dX10_isFull_1 : decode cX10_isFull 1 = .ok (.getfield 24, 3) := by decide +kernel
theorem dX10_isFull_4 : decode cX10_isFull 4 = .ok (.bipush 6, 2) := by decide +kernel
theorem dX10_isFull_6 : decode cX10_isFull 6 = .ok (.if_icmp .lt 7, 3) := by decide +kernel
theorem dX10_isFull_9 : decode cX10_isFull 9 = .ok (.iconst 1, 1) := by decide +kernel
theorem dX10_isFull_10 : decode cX10_isFull 10 = .ok (.goto 4, 3) := by decide +kernel
theorem dX10_isFull_13 : decode cX10_isFull 13 = .ok (.iconst 0, 1) := by decide +kernel
theorem dX10_isFull_14 : decode cX10_isFull 14 = .ok (.ireturn, 1) := by decide +kernel
set_option maxRecDepth 20000 in
theorem ggX10_addPane_X3_become : GoodIn wsX10_addPane wsX3_become := goodIn_r _ [7, 8, 9, 10, 11, 12, 13, 6, 14, 15, 16, 23, 24, 25, 26, 27] (by decide +kernel) (by decide +kernel)
set_option maxRecDepth 20000 in
theorem gX10_addPane_X3_become : GoodIn wsX10_addPane (wsV RX10 45 RX3 yX3_become wsX3_become) := goodIn_app (goodIn_of _ (by decide +kernel)) ggX10_addPane_X3_become
theorem dX10_addPane_0 : decode cX10_addPane 0 = .ok (.aload_n 0, 1) := by decide +kernel
theorem dX10_addPane_1 : decode cX10_addPane 1 = .ok (.getfield 20, 3) := by decide +kernel
theorem dX10_addPane_4 : decode cX10_addPane 4 = .ok (.aload_n 0, 1) := by decide +kernel
theorem dX10_addPane_5 : decode cX10_addPane 5 = .ok (.getfield 24, 3) := by decide +kernel
theorem dX10_addPane_8 : decode cX10_addPane 8 = .ok (.aaload, 1) := by decide +kernel
theorem dX10_addPane_9 : decode cX10_addPane 9 = .ok (.astore_n 3, 1) := by decide +kernel
theorem dX10_addPane_10 : decode cX10_addPane 10 = .ok (.aload_n 3, 1) := by decide +kernel
theorem dX10_addPane_11 : decode cX10_addPane 11 = .ok (.iload_n 1, 1) := by decide +kernel
theorem dX10_addPane_12 : decode cX10_addPane 12 = .ok (.iload_n 2, 1) := by decide +kernel
theorem dX10_addPane_13 : decode cX10_addPane 13 = .ok (.invokevirtual 45, 3) := by decide +kernel
theorem dX10_addPane_16 : decode cX10_addPane 16 = .ok (.aload_n 0, 1) := by decide +kernel
theorem dX10_addPane_17 : decode cX10_addPane 17 = .ok (.dup, 1) := by decide +kernel
theorem dX10_addPane_18 : decode cX10_addPane 18 = .ok (.getfield 24, 3) := by decide +kernel
theorem dX10_addPane_21 : decode cX10_addPane 21 = .ok (.iconst 1, 1) := by decide +kernel
theorem dX10_addPane_22 : decode cX10_addPane 22 = .ok (.iadd, 1) := by decide +kernel
theorem dX10_addPane_23 : decode cX10_addPane 23 = .ok (.putfield 24, 3) := by decide +kernel
theorem dX10_addPane_26 : decode cX10_addPane 26 = .ok (.aload_n 3, 1) := by decide +kernel
theorem dX10_addPane_27 : decode cX10_addPane 27 = .ok (.areturn, 1) := by decide +kernel
theorem dX10_removePane_0 : decode cX10_removePane 0 = .ok (.aload_n 0, 1) := by decide +kernel
theorem dX10_removePane_1 : decode cX10_removePane 1 = .ok (.getfield 20, 3) := by decide +kernel
theorem dX10_removePane_4 : decode cX10_removePane 4 = .ok (.iload_n 1, 1) := by decide +kernel
theorem dX10_removePane_5 : decode cX10_removePane 5 = .ok (.aaload, 1) := by decide +kernel
theorem dX10_removePane_6 : decode cX10_removePane 6 = .ok (.astore_n 2, 1) := by decide +kernel
theorem dX10_removePane_7 : decode cX10_removePane 7 = .ok (.aload_n 0, 1) := by decide +kernel
theorem dX10_removePane_8 : decode cX10_removePane 8 = .ok (.dup, 1) := by decide +kernel
theorem dX10_removePane_9 : decode cX10_removePane 9 = .ok (.getfield 24, 3) := by decide +kernel
theorem dX10_removePane_12 : decode cX10_removePane 12 = .ok (.iconst 1, 1) := by decide +kernel
theorem dX10_removePane_13 : decode cX10_removePane 13 = .ok (.isub, 1) := by decide +kernel
theorem dX10_removePane_14 : decode cX10_removePane 14 = .ok (.putfield 24, 3) := by decide +kernel
theorem dX10_removePane_17 : decode cX10_removePane 17 = .ok (.iload_n 1, 1) := by decide +kernel
theorem dX10_removePane_18 : decode cX10_removePane 18 = .ok (.istore_n 3, 1) := by decide +kernel
theorem dX10_removePane_19 : decode cX10_removePane 19 = .ok (.iload_n 3, 1) := by decide +kernel
theorem dX10_removePane_20 : decode cX10_removePane 20 = .ok (.aload_n 0, 1) := by decide +kernel
theorem dX10_removePane_21 : decode cX10_removePane 21 = .ok (.getfield 24, 3) := by decide +kernel
theorem dX10_removePane_24 : decode cX10_removePane 24 = .ok (.if_icmp .ge 23, 3) := by decide +kernel
theorem dX10_removePane_27 : decode cX10_removePane 27 = .ok (.aload_n 0, 1) := by decide +kernel
theorem dX10_removePane_28 : decode cX10_removePane 28 = .ok (.getfield 20, 3) := by decide +kernel
theorem dX10_removePane_31 : decode cX10_removePane 31 = .ok (.iload_n 3, 1) := by decide +kernel
theorem dX10_removePane_32 : decode cX10_removePane 32 = .ok (.aload_n 0, 1) := by decide +kernel
theorem dX10_removePane_33 : decode cX10_removePane 33 = .ok (.getfield 20, 3) := by decide +kernel
theorem dX10_removePane_36 : decode cX10_removePane 36 = .ok (.iload_n 3, 1) := by decide +kernel
theorem dX10_removePane_37 : decode cX10_removePane 37 = .ok (.iconst 1, 1) := by decide +kernel
theorem dX10_removePane_38 : decode cX10_removePane 38 = .ok (.iadd, 1) := by decide +kernel
theorem dX10_removePane_39 : decode cX10_removePane 39 = .ok (.aaload, 1) := by decide +kernel
theorem dX10_removePane_40 : decode cX10_removePane 40 = .ok (.aastore, 1) := by decide +kernel
theorem dX10_removePane_41 : decode cX10_removePane 41 = .ok (.iinc 3 1, 3) := by decide +kernel
theorem dX10_removePane_44 : decode cX10_removePane 44 = .ok (.goto (-25), 3) := by decide +kernel
theorem dX10_removePane_47 : decode cX10_removePane 47 = .ok (.aload_n 0, 1) := by decide +kernel
theorem dX10_removePane_48 : decode cX10_removePane 48 = .ok (.getfield 20, 3) := by decide +kernel
theorem dX10_removePane_51 : decode cX10_removePane 51 = .ok (.aload_n 0, 1) := by decide +kernel
theorem dX10_removePane_52 : decode cX10_removePane 52 = .ok (.getfield 24, 3) := by decide +kernel
theorem dX10_removePane_55 : decode cX10_removePane 55 = .ok (.aload_n 2, 1) := by decide +kernel
theorem dX10_removePane_56 : decode cX10_removePane 56 = .ok (.aastore, 1) := by decide +kernel
theorem dX10_removePane_57 : decode cX10_removePane 57 = .ok (.return_, 1) := by decide +kernel
set_option maxRecDepth 20000 in
theorem ggX10_passDay_X3_passDay : GoodIn wsX10_passDay wsX3_passDay := goodIn_r _ [8, 9, 10, 11, 12, 13, 7, 14, 15, 16, 17, 18, 19, 20, 21, 22, 23, 30, 31, 32, 33, 34] (by decide +kernel) (by decide +kernel)
set_option maxRecDepth 20000 in
theorem gX10_passDay_X3_passDay : GoodIn wsX10_passDay (wsV RX10 49 RX3 yX3_passDay wsX3_passDay) := goodIn_app (goodIn_of _ (by decide +kernel)) ggX10_passDay_X3_passDay
theorem dX10_passDay_0 : decode cX10_passDay 0 = .ok (.iconst 0, 1) := by decide +kernel
theorem dX10_passDay_1 : decode cX10_passDay 1 = .ok (.istore_n 1, 1) := by decide +kernel
theorem dX10_passDay_2 : decode cX10_passDay 2 = .ok (.iload_n 1, 1) := by decide +kernel
theorem dX10_passDay_3 : decode cX10_passDay 3 = .ok (.aload_n 0, 1) := by decide +kernel
theorem dX10_passDay_4 : decode cX10_passDay 4 = .ok (.getfield 24, 3) := by decide +kernel
theorem dX10_passDay_7 : decode cX10_passDay 7 = .ok (.if_icmp .ge 22, 3) := by decide +kernel
theorem dX10_passDay_10 : decode cX10_passDay 10 = .ok (.aload_n 0, 1) := by decide +kernel
theorem dX10_passDay_11 : decode cX10_passDay 11 = .ok (.getfield 20, 3) := by decide +kernel
theorem dX10_passDay_14 : decode cX10_passDay 14 = .ok (.iload_n 1, 1) := by decide +kernel
theorem dX10_passDay_15 : decode cX10_passDay 15 = .ok (.aaload, 1) := by decide +kernel
theorem dX10_passDay_16 : decode cX10_passDay 16 = .ok (.aload_n 0, 1) := by decide +kernel
theorem dX10_passDay_17 : decode cX10_passDay 17 = .ok (.getfield 28, 3) := by decide +kernel
theorem dX10_passDay_20 : decode cX10_passDay 20 = .ok (.invokevirtual 49, 3) := by decide +kernel
theorem dX10_passDay_23 : decode cX10_passDay 23 = .ok (.iinc 1 1, 3) := by decide +kernel
theorem dX10_passDay_26 : decode cX10_passDay 26 = .ok (.goto (-24), 3) := by decide +kernel
theorem dX10_passDay_29 : decode cX10_passDay 29 = .ok (.aload_n 0, 1) := by decide +kernel
theorem dX10_passDay_30 : decode cX10_passDay 30 = .ok (.dup, 1) := by decide +kernel
theorem dX10_passDay_31 : decode cX10_passDay 31 = .ok (.getfield 28, 3) := by decide +kernel
theorem dX10_passDay_34 : decode cX10_passDay 34 = .ok (.iconst 1, 1) := by decide +kernel
theorem dX10_passDay_35 : decode cX10_passDay 35 = .ok (.iadd, 1) := by decide +kernel
theorem dX10_passDay_36 : decode cX10_passDay 36 = .ok (.putfield 28, 3) := by decide +kernel
theorem dX10_passDay_39 : decode cX10_passDay 39 = .ok (.return_, 1) := by decide +kernel
set_option maxRecDepth 20000 in
theorem ggX10_countLit_X3_glimpseAt : GoodIn wsX10_countLit wsX3_glimpseAt := goodIn_r _ [8, 9, 10, 17, 18, 19, 20, 21] (by decide +kernel) (by decide +kernel)
set_option maxRecDepth 20000 in
theorem gX10_countLit_X3_glimpseAt : GoodIn wsX10_countLit (wsV RX10 54 RX3 yX3_glimpseAt wsX3_glimpseAt) := goodIn_app (goodIn_of _ (by decide +kernel)) ggX10_countLit_X3_glimpseAt
theorem dX10_countLit_0 : decode cX10_countLit 0 = .ok (.iconst 0, 1) := by decide +kernel
theorem dX10_countLit_1 : decode cX10_countLit 1 = .ok (.istore_n 1, 1) := by decide +kernel
theorem dX10_countLit_2 : decode cX10_countLit 2 = .ok (.iconst 0, 1) := by decide +kernel
theorem dX10_countLit_3 : decode cX10_countLit 3 = .ok (.istore_n 2, 1) := by decide +kernel
theorem dX10_countLit_4 : decode cX10_countLit 4 = .ok (.iload_n 2, 1) := by decide +kernel
theorem dX10_countLit_5 : decode cX10_countLit 5 = .ok (.aload_n 0, 1) := by decide +kernel
theorem dX10_countLit_6 : decode cX10_countLit 6 = .ok (.getfield 24, 3) := by decide +kernel
theorem dX10_countLit_9 : decode cX10_countLit 9 = .ok (.if_icmp .ge 53, 3) := by decide +kernel
theorem dX10_countLit_12 : decode cX10_countLit 12 = .ok (.iconst 0, 1) := by decide +kernel
theorem dX10_countLit_13 : decode cX10_countLit 13 = .ok (.istore_n 3, 1) := by decide +kernel
theorem dX10_countLit_14 : decode cX10_countLit 14 = .ok (.iload_n 3, 1) := by decide +kernel
theorem dX10_countLit_15 : decode cX10_countLit 15 = .ok (.aload_n 0, 1) := by decide +kernel
theorem dX10_countLit_16 : decode cX10_countLit 16 = .ok (.getfield 20, 3) := by decide +kernel
theorem dX10_countLit_19 : decode cX10_countLit 19 = .ok (.iload_n 2, 1) := by decide +kernel
theorem dX10_countLit_20 : decode cX10_countLit 20 = .ok (.aaload, 1) := by decide +kernel
theorem dX10_countLit_21 : decode cX10_countLit 21 = .ok (.getfield 53, 3) := by decide +kernel
theorem dX10_countLit_24 : decode cX10_countLit 24 = .ok (.if_icmp .ge 32, 3) := by decide +kernel
theorem dX10_countLit_27 : decode cX10_countLit 27 = .ok (.iload_n 1, 1) := by decide +kernel
theorem dX10_countLit_28 : decode cX10_countLit 28 = .ok (.aload_n 0, 1) := by decide +kernel
theorem dX10_countLit_29 : decode cX10_countLit 29 = .ok (.getfield 20, 3) := by decide +kernel
theorem dX10_countLit_32 : decode cX10_countLit 32 = .ok (.iload_n 2, 1) := by decide +kernel
theorem dX10_countLit_33 : decode cX10_countLit 33 = .ok (.aaload, 1) := by decide +kernel
theorem dX10_countLit_34 : decode cX10_countLit 34 = .ok (.iload_n 3, 1) := by decide +kernel
theorem dX10_countLit_35 : decode cX10_countLit 35 = .ok (.invokevirtual 54, 3) := by decide +kernel
theorem dX10_countLit_38 : decode cX10_countLit 38 = .ok (.bipush (-9), 2) := by decide +kernel
theorem dX10_countLit_40 : decode cX10_countLit 40 = .ok (.if_icmp .ne 7, 3) := by decide +kernel
theorem dX10_countLit_43 : decode cX10_countLit 43 = .ok (.iconst 0, 1) := by decide +kernel
theorem dX10_countLit_44 : decode cX10_countLit 44 = .ok (.goto 4, 3) := by decide +kernel
theorem dX10_countLit_47 : decode cX10_countLit 47 = .ok (.iconst 1, 1) := by decide +kernel
theorem dX10_countLit_48 : decode cX10_countLit 48 = .ok (.iadd, 1) := by decide +kernel
theorem dX10_countLit_49 : decode cX10_countLit 49 = .ok (.istore_n 1, 1) := by decide +kernel
theorem dX10_countLit_50 : decode cX10_countLit 50 = .ok (.iinc 3 1, 3) := by decide +kernel
theorem dX10_countLit_53 : decode cX10_countLit 53 = .ok (.goto (-39), 3) := by decide +kernel
theorem dX10_countLit_56 : decode cX10_countLit 56 = .ok (.iinc 2 1, 3) := by decide +kernel
theorem dX10_countLit_59 : decode cX10_countLit 59 = .ok (.goto (-55), 3) := by decide +kernel
theorem dX10_countLit_62 : decode cX10_countLit 62 = .ok (.iload_n 1, 1) := by decide +kernel
theorem dX10_countLit_63 : decode cX10_countLit 63 = .ok (.ireturn, 1) := by decide +kernel
set_option maxRecDepth 20000 in
theorem ggX10_viewIn_X11_viewSlot : GoodIn wsX10_viewIn wsX11_viewSlot := goodIn_r _ [4] (by decide +kernel) (by decide +kernel)
set_option maxRecDepth 20000 in
theorem gX10_viewIn_X11_viewSlot_n58 : GoodIn wsX10_viewIn (wsX11_viewSlot) := ggX10_viewIn_X11_viewSlot
theorem dX10_viewIn_0 : decode cX10_viewIn 0 = .ok (.iload_n 1, 1) := by decide +kernel
theorem dX10_viewIn_1 : decode cX10_viewIn 1 = .ok (.bipush (-9), 2) := by decide +kernel
theorem dX10_viewIn_3 : decode cX10_viewIn 3 = .ok (.if_icmp .ne 7, 3) := by decide +kernel
theorem dX10_viewIn_6 : decode cX10_viewIn 6 = .ok (.iconst 0, 1) := by decide +kernel
theorem dX10_viewIn_7 : decode cX10_viewIn 7 = .ok (.goto 19, 3) := by decide +kernel
theorem dX10_viewIn_10 : decode cX10_viewIn 10 = .ok (.aload_n 0, 1) := by decide +kernel
theorem dX10_viewIn_11 : decode cX10_viewIn 11 = .ok (.getfield 9, 3) := by decide +kernel
theorem dX10_viewIn_14 : decode cX10_viewIn 14 = .ok (.iload_n 1, 1) := by decide +kernel
theorem dX10_viewIn_15 : decode cX10_viewIn 15 = .ok (.bipush 10, 2) := by decide +kernel
theorem dX10_viewIn_17 : decode cX10_viewIn 17 = .ok (.irem, 1) := by decide +kernel
theorem dX10_viewIn_18 : decode cX10_viewIn 18 = .ok (.iload_n 1, 1) := by decide +kernel
theorem dX10_viewIn_19 : decode cX10_viewIn 19 = .ok (.bipush 10, 2) := by decide +kernel
theorem dX10_viewIn_21 : decode cX10_viewIn 21 = .ok (.idiv, 1) := by decide +kernel
theorem dX10_viewIn_22 : decode cX10_viewIn 22 = .ok (.invokestatic 58, 3) := by decide +kernel
theorem dX10_viewIn_25 : decode cX10_viewIn 25 = .ok (.iaload, 1) := by decide +kernel
theorem dX10_viewIn_26 : decode cX10_viewIn 26 = .ok (.ireturn, 1) := by decide +kernel
set_option maxRecDepth 20000 in
theorem ggX10_shownBy_X3_last : GoodIn wsX10_shownBy wsX3_last := goodIn_r _ [6, 7, 8, 9, 10, 5, 11, 12, 13, 27, 28, 29, 30, 31] (by decide +kernel) (by decide +kernel)
set_option maxRecDepth 20000 in
theorem gX10_shownBy_X3_last : GoodIn wsX10_shownBy (wsV RX10 62 RX3 yX3_last wsX3_last) := goodIn_app (goodIn_of _ (by decide +kernel)) ggX10_shownBy_X3_last
set_option maxRecDepth 20000 in
theorem ggX10_shownBy_X10_viewIn : GoodIn wsX10_shownBy wsX10_viewIn := goodIn_r _ [18, 19, 20, 21, 22, 32, 33, 34, 35, 36, 37] (by decide +kernel) (by decide +kernel)
set_option maxRecDepth 20000 in
theorem gX10_shownBy_X10_viewIn : GoodIn wsX10_shownBy (wsV RX10 66 RX10 yX10_viewIn wsX10_viewIn) := goodIn_app (goodIn_of _ (by decide +kernel)) ggX10_shownBy_X10_viewIn
set_option maxRecDepth 20000 in
theorem ggX10_shownBy_X3_aheadOfLast : GoodIn wsX10_shownBy wsX3_aheadOfLast := goodIn_r _ [26, 7, 8, 9, 10, 5, 11, 12, 13, 27, 28, 29, 30, 31] (by decide +kernel) (by decide +kernel)
set_option maxRecDepth 20000 in
theorem gX10_shownBy_X3_aheadOfLast : GoodIn wsX10_shownBy (wsV RX10 72 RX3 yX3_aheadOfLast wsX3_aheadOfLast) := goodIn_app (goodIn_of _ (by decide +kernel)) ggX10_shownBy_X3_aheadOfLast
theorem dX10_shownBy_0 : decode cX10_shownBy 0 = .ok (.aload_n 0, 1) := by decide +kernel
theorem dX10_shownBy_1 : decode cX10_shownBy 1 = .ok (.aload_n 1, 1) := by decide +kernel
theorem dX10_shownBy_2 : decode cX10_shownBy 2 = .ok (.invokevirtual 62, 3) := by decide +kernel
theorem dX10_shownBy_5 : decode cX10_shownBy 5 = .ok (.invokevirtual 66, 3) := by decide +kernel
theorem dX10_shownBy_8 : decode cX10_shownBy 8 = .ok (.istore_n 2, 1) := by decide +kernel
theorem dX10_shownBy_9 : decode cX10_shownBy 9 = .ok (.aload_n 1, 1) := by decide +kernel
theorem dX10_shownBy_10 : decode cX10_shownBy 10 = .ok (.getfield 69, 3) := by decide +kernel
theorem dX10_shownBy_13 : decode cX10_shownBy 13 = .ok (.tableswitch 64 3 5 #[27, 31, 46], 27) := by decide +kernel
theorem dX10_shownBy_40 : decode cX10_shownBy 40 = .ok (.iload_n 2, 1) := by decide +kernel
theorem dX10_shownBy_41 : decode cX10_shownBy 41 = .ok (.iconst 2, 1) := by decide +kernel
theorem dX10_shownBy_42 : decode cX10_shownBy 42 = .ok (.idiv, 1) := by decide +kernel
theorem dX10_shownBy_43 : decode cX10_shownBy 43 = .ok (.ireturn, 1) := by decide +kernel
theorem dX10_shownBy_44 : decode cX10_shownBy 44 = .ok (.iload_n 2, 1) := by decide +kernel
theorem dX10_shownBy_45 : decode cX10_shownBy 45 = .ok (.iconst 2, 1) := by decide +kernel
theorem dX10_shownBy_46 : decode cX10_shownBy 46 = .ok (.idiv, 1) := by decide +kernel
theorem dX10_shownBy_47 : decode cX10_shownBy 47 = .ok (.aload_n 0, 1) := by decide +kernel
theorem dX10_shownBy_48 : decode cX10_shownBy 48 = .ok (.aload_n 1, 1) := by decide +kernel
theorem dX10_shownBy_49 : decode cX10_shownBy 49 = .ok (.invokevirtual 72, 3) := by decide +kernel
theorem dX10_shownBy_52 : decode cX10_shownBy 52 = .ok (.invokevirtual 66, 3) := by decide +kernel
theorem dX10_shownBy_55 : decode cX10_shownBy 55 = .ok (.iconst 2, 1) := by decide +kernel
theorem dX10_shownBy_56 : decode cX10_shownBy 56 = .ok (.idiv, 1) := by decide +kernel
theorem dX10_shownBy_57 : decode cX10_shownBy 57 = .ok (.iadd, 1) := by decide +kernel
theorem dX10_shownBy_58 : decode cX10_shownBy 58 = .ok (.ireturn, 1) := by decide +kernel
theorem dX10_shownBy_59 : decode cX10_shownBy 59 = .ok (.aload_n 1, 1) := by decide +kernel
theorem dX10_shownBy_60 : decode cX10_shownBy 60 = .ok (.invokevirtual 62, 3) := by decide +kernel
theorem dX10_shownBy_63 : decode cX10_shownBy 63 = .ok (.bipush (-9), 2) := by decide +kernel
theorem dX10_shownBy_65 : decode cX10_shownBy 65 = .ok (.if_icmp .ne 7, 3) := by decide +kernel
theorem dX10_shownBy_68 : decode cX10_shownBy 68 = .ok (.iconst 0, 1) := by decide +kernel
theorem dX10_shownBy_69 : decode cX10_shownBy 69 = .ok (.goto 7, 3) := by decide +kernel
theorem dX10_shownBy_72 : decode cX10_shownBy 72 = .ok (.bipush 99, 2) := by decide +kernel
theorem dX10_shownBy_74 : decode cX10_shownBy 74 = .ok (.iload_n 2, 1) := by decide +kernel
theorem dX10_shownBy_75 : decode cX10_shownBy 75 = .ok (.isub, 1) := by decide +kernel
theorem dX10_shownBy_76 : decode cX10_shownBy 76 = .ok (.ireturn, 1) := by decide +kernel
theorem dX10_shownBy_77 : decode cX10_shownBy 77 = .ok (.iload_n 2, 1) := by decide +kernel
theorem dX10_shownBy_78 : decode cX10_shownBy 78 = .ok (.ireturn, 1) := by decide +kernel
set_option maxRecDepth 20000 in
theorem ggX10_loveFor_X11_loveSlot : GoodIn wsX10_loveFor wsX11_loveSlot := goodIn_r _ [4] (by decide +kernel) (by decide +kernel)
set_option maxRecDepth 20000 in
theorem gX10_loveFor_X11_loveSlot_n75 : GoodIn wsX10_loveFor (wsX11_loveSlot) := ggX10_loveFor_X11_loveSlot
theorem dX10_loveFor_0 : decode cX10_loveFor 0 = .ok (.iload_n 2, 1) := by decide +kernel
theorem dX10_loveFor_1 : decode cX10_loveFor 1 = .ok (.bipush (-9), 2) := by decide +kernel
theorem dX10_loveFor_3 : decode cX10_loveFor 3 = .ok (.if_icmp .ne 7, 3) := by decide +kernel
theorem dX10_loveFor_6 : decode cX10_loveFor 6 = .ok (.iconst 0, 1) := by decide +kernel
theorem dX10_loveFor_7 : decode cX10_loveFor 7 = .ok (.goto 16, 3) := by decide +kernel
theorem dX10_loveFor_10 : decode cX10_loveFor 10 = .ok (.aload_n 0, 1) := by decide +kernel
theorem dX10_loveFor_11 : decode cX10_loveFor 11 = .ok (.getfield 15, 3) := by decide +kernel
theorem dX10_loveFor_14 : decode cX10_loveFor 14 = .ok (.iload_n 1, 1) := by decide +kernel
theorem dX10_loveFor_15 : decode cX10_loveFor 15 = .ok (.iload_n 2, 1) := by decide +kernel
theorem dX10_loveFor_16 : decode cX10_loveFor 16 = .ok (.bipush 10, 2) := by decide +kernel
theorem dX10_loveFor_18 : decode cX10_loveFor 18 = .ok (.irem, 1) := by decide +kernel
theorem dX10_loveFor_19 : decode cX10_loveFor 19 = .ok (.invokestatic 75, 3) := by decide +kernel
theorem dX10_loveFor_22 : decode cX10_loveFor 22 = .ok (.iaload, 1) := by decide +kernel
theorem dX10_loveFor_23 : decode cX10_loveFor 23 = .ok (.ireturn, 1) := by decide +kernel
set_option maxRecDepth 20000 in
theorem ggX10_worthOf_X10_shownBy : GoodIn wsX10_worthOf wsX10_shownBy := goodIn_r _ [10, 11, 12, 13, 14, 15, 16, 17, 18, 19, 20, 21, 22, 23, 24, 25, 26, 9, 27, 28, 29, 30, 31, 32, 33, 34, 35, 65, 66, 67, 68, 69, 59, 60, 61, 62, 63, 64] (by decide +kernel) (by decide +kernel)
set_option maxRecDepth 20000 in
theorem gX10_worthOf_X10_shownBy : GoodIn wsX10_worthOf (wsV RX10 83 RX10 yX10_shownBy wsX10_shownBy) := goodIn_app (goodIn_of _ (by decide +kernel)) ggX10_worthOf_X10_shownBy
set_option maxRecDepth 20000 in
theorem ggX10_worthOf_X3_last : GoodIn wsX10_worthOf wsX3_last := goodIn_r _ [16, 17, 18, 19, 20, 15, 21, 22, 23, 65, 66, 67, 68, 69] (by decide +kernel) (by decide +kernel)
set_option maxRecDepth 20000 in
theorem gX10_worthOf_X3_last : GoodIn wsX10_worthOf (wsV RX10 62 RX3 yX3_last wsX3_last) := goodIn_app (goodIn_of _ (by decide +kernel)) ggX10_worthOf_X3_last
set_option maxRecDepth 20000 in
theorem ggX10_worthOf_X10_loveFor : GoodIn wsX10_worthOf wsX10_loveFor := goodIn_r _ [39, 40, 41, 30, 42, 59, 60, 61, 62, 63, 64] (by decide +kernel) (by decide +kernel)
set_option maxRecDepth 20000 in
theorem gX10_worthOf_X10_loveFor : GoodIn wsX10_worthOf (wsV RX10 87 RX10 yX10_loveFor wsX10_loveFor) := goodIn_app (goodIn_of _ (by decide +kernel)) ggX10_worthOf_X10_loveFor
set_option maxRecDepth 20000 in
theorem ggX10_worthOf_X3_passDay : GoodIn wsX10_worthOf wsX3_passDay := goodIn_r _ [46, 23, 47, 48, 49, 50, 15, 51, 52, 53, 30, 54, 55, 56, 57, 58, 22, 65, 66, 67, 68, 69] (by decide +kernel) (by decide +kernel)
set_option maxRecDepth 20000 in
theorem gX10_worthOf_X3_passDay : GoodIn wsX10_worthOf (wsV RX10 49 RX3 yX3_passDay wsX3_passDay) := goodIn_app (goodIn_of _ (by decide +kernel)) ggX10_worthOf_X3_passDay
theorem dX10_worthOf_0 : decode cX10_worthOf 0 = .ok (.iconst 0, 1) := by decide +kernel
theorem dX10_worthOf_1 : decode cX10_worthOf 1 = .ok (.istore 4, 2) := by decide +kernel
theorem dX10_worthOf_3 : decode cX10_worthOf 3 = .ok (.bipush 50, 2) := by decide +kernel
theorem dX10_worthOf_5 : decode cX10_worthOf 5 = .ok (.aload_n 0, 1) := by decide +kernel
theorem dX10_worthOf_6 : decode cX10_worthOf 6 = .ok (.getfield 28, 3) := by decide +kernel
theorem dX10_worthOf_9 : decode cX10_worthOf 9 = .ok (.iload_n 3, 1) := by decide +kernel
theorem dX10_worthOf_10 : decode cX10_worthOf 10 = .ok (.iadd, 1) := by decide +kernel
theorem dX10_worthOf_11 : decode cX10_worthOf 11 = .ok (.invokestatic 78, 3) := by decide +kernel
theorem dX10_worthOf_14 : decode cX10_worthOf 14 = .ok (.istore 5, 2) := by decide +kernel
theorem dX10_worthOf_16 : decode cX10_worthOf 16 = .ok (.aload_n 0, 1) := by decide +kernel
theorem dX10_worthOf_17 : decode cX10_worthOf 17 = .ok (.getfield 28, 3) := by decide +kernel
theorem dX10_worthOf_20 : decode cX10_worthOf 20 = .ok (.istore 6, 2) := by decide +kernel
theorem dX10_worthOf_22 : decode cX10_worthOf 22 = .ok (.iload 6, 2) := by decide +kernel
theorem dX10_worthOf_24 : decode cX10_worthOf 24 = .ok (.iload 5, 2) := by decide +kernel
theorem dX10_worthOf_26 : decode cX10_worthOf 26 = .ok (.if_icmp .ge 35, 3) := by decide +kernel
theorem dX10_worthOf_29 : decode cX10_worthOf 29 = .ok (.iload 4, 2) := by decide +kernel
theorem dX10_worthOf_31 : decode cX10_worthOf 31 = .ok (.aload_n 0, 1) := by decide +kernel
theorem dX10_worthOf_32 : decode cX10_worthOf 32 = .ok (.aload_n 1, 1) := by decide +kernel
theorem dX10_worthOf_33 : decode cX10_worthOf 33 = .ok (.invokevirtual 83, 3) := by decide +kernel
theorem dX10_worthOf_36 : decode cX10_worthOf 36 = .ok (.aload_n 0, 1) := by decide +kernel
theorem dX10_worthOf_37 : decode cX10_worthOf 37 = .ok (.iload_n 2, 1) := by decide +kernel
theorem dX10_worthOf_38 : decode cX10_worthOf 38 = .ok (.aload_n 1, 1) := by decide +kernel
theorem dX10_worthOf_39 : decode cX10_worthOf 39 = .ok (.invokevirtual 62, 3) := by decide +kernel
theorem dX10_worthOf_42 : decode cX10_worthOf 42 = .ok (.invokevirtual 87, 3) := by decide +kernel
theorem dX10_worthOf_45 : decode cX10_worthOf 45 = .ok (.imul, 1) := by decide +kernel
theorem dX10_worthOf_46 : decode cX10_worthOf 46 = .ok (.iadd, 1) := by decide +kernel
theorem dX10_worthOf_47 : decode cX10_worthOf 47 = .ok (.istore 4, 2) := by decide +kernel
theorem dX10_worthOf_49 : decode cX10_worthOf 49 = .ok (.aload_n 1, 1) := by decide +kernel
theorem dX10_worthOf_50 : decode cX10_worthOf 50 = .ok (.iload 6, 2) := by decide +kernel
theorem dX10_worthOf_52 : decode cX10_worthOf 52 = .ok (.invokevirtual 49, 3) := by decide +kernel
theorem dX10_worthOf_55 : decode cX10_worthOf 55 = .ok (.iinc 6 1, 3) := by decide +kernel
theorem dX10_worthOf_58 : decode cX10_worthOf 58 = .ok (.goto (-36), 3) := by decide +kernel
theorem dX10_worthOf_61 : decode cX10_worthOf 61 = .ok (.iload 4, 2) := by decide +kernel
theorem dX10_worthOf_63 : decode cX10_worthOf 63 = .ok (.ireturn, 1) := by decide +kernel
set_option maxRecDepth 20000 in
theorem ggX11_init_X3_init : GoodIn wsX11_init wsX3_init := goodIn_r _ [31, 32, 2, 3, 12, 33, 34, 35, 36, 37, 63, 64, 65, 66, 67] (by decide +kernel) (by decide +kernel)
set_option maxRecDepth 20000 in
theorem gX11_init_X3_init_n11 : GoodIn wsX11_init (wsX3_init) := ggX11_init_X3_init
set_option maxRecDepth 20000 in
theorem ggX11_init_X4_init : GoodIn wsX11_init wsX4_init := goodIn_r _ [39, 40, 2, 3, 12, 41, 42, 43, 44, 45, 80, 81, 82, 83, 84] (by decide +kernel) (by decide +kernel)
set_option maxRecDepth 20000 in
theorem gX11_init_X4_init_n18 : GoodIn wsX11_init (wsX4_init) := ggX11_init_X4_init
set_option maxRecDepth 20000 in
theorem ggX11_init_X9_init : GoodIn wsX11_init wsX9_init := goodIn_r _ [47, 48, 2, 3, 12, 49, 50, 51, 85, 86, 87] (by decide +kernel) (by decide +kernel)
set_option maxRecDepth 20000 in
theorem gX11_init_X9_init_n41 : GoodIn wsX11_init (wsX9_init) := ggX11_init_X9_init
set_option maxRecDepth 20000 in
theorem ggX11_init_X10_init : GoodIn wsX11_init wsX10_init := goodIn_r _ [54, 55, 2, 3, 12, 56, 57, 58, 59, 60, 61, 62, 5, 6, 30, 31, 32, 33, 34, 35, 36, 37, 88, 89, 90, 91, 92, 93, 63, 64, 65, 66, 67] (by decide +kernel) (by decide +kernel)
set_option maxRecDepth 20000 in
theorem gX11_init_X10_init : GoodIn wsX11_init (wsX10_init) := ggX11_init_X10_init
theorem dX11_init_0 : decode cX11_init 0 = .ok (.aload_n 0, 1) := by decide +kernel
theorem dX11_init_1 : decode cX11_init 1 = .ok (.invokespecial 3, 3) := by decide +kernel
theorem dX11_init_4 : decode cX11_init 4 = .ok (.aload_n 0, 1) := by decide +kernel
theorem dX11_init_5 : decode cX11_init 5 = .ok (.new 9, 3) := by decide +kernel
theorem dX11_init_8 : decode cX11_init 8 = .ok (.dup, 1) := by decide +kernel
theorem dX11_init_9 : decode cX11_init 9 = .ok (.invokespecial 11, 3) := by decide +kernel
theorem dX11_init_12 : decode cX11_init 12 = .ok (.putfield 12, 3) := by decide +kernel
theorem dX11_init_15 : decode cX11_init 15 = .ok (.aload_n 0, 1) := by decide +kernel
theorem dX11_init_16 : decode cX11_init 16 = .ok (.new 16, 3) := by decide +kernel
theorem dX11_init_19 : decode cX11_init 19 = .ok (.dup, 1) := by decide +kernel
theorem dX11_init_20 : decode cX11_init 20 = .ok (.invokespecial 18, 3) := by decide +kernel
theorem dX11_init_23 : decode cX11_init 23 = .ok (.putfield 19, 3) := by decide +kernel
theorem dX11_init_26 : decode cX11_init 26 = .ok (.aload_n 0, 1) := by decide +kernel
theorem dX11_init_27 : decode cX11_init 27 = .ok (.bipush 60, 2) := by decide +kernel
theorem dX11_init_29 : decode cX11_init 29 = .ok (.newarray .int, 2) := by decide +kernel
theorem dX11_init_31 : decode cX11_init 31 = .ok (.putfield 23, 3) := by decide +kernel
theorem dX11_init_34 : decode cX11_init 34 = .ok (.aload_n 0, 1) := by decide +kernel
theorem dX11_init_35 : decode cX11_init 35 = .ok (.iconst 4, 1) := by decide +kernel
theorem dX11_init_36 : decode cX11_init 36 = .ok (.anewarray 27, 3) := by decide +kernel
theorem dX11_init_39 : decode cX11_init 39 = .ok (.putfield 29, 3) := by decide +kernel
theorem dX11_init_42 : decode cX11_init 42 = .ok (.aload_n 0, 1) := by decide +kernel
theorem dX11_init_43 : decode cX11_init 43 = .ok (.iconst 4, 1) := by decide +kernel
theorem dX11_init_44 : decode cX11_init 44 = .ok (.newarray .int, 2) := by decide +kernel
theorem dX11_init_46 : decode cX11_init 46 = .ok (.putfield 33, 3) := by decide +kernel
theorem dX11_init_49 : decode cX11_init 49 = .ok (.aload_n 0, 1) := by decide +kernel
theorem dX11_init_50 : decode cX11_init 50 = .ok (.iconst 4, 1) := by decide +kernel
theorem dX11_init_51 : decode cX11_init 51 = .ok (.anewarray 27, 3) := by decide +kernel
theorem dX11_init_54 : decode cX11_init 54 = .ok (.putfield 36, 3) := by decide +kernel
theorem dX11_init_57 : decode cX11_init 57 = .ok (.aload_n 0, 1) := by decide +kernel
theorem dX11_init_58 : decode cX11_init 58 = .ok (.new 39, 3) := by decide +kernel
theorem dX11_init_61 : decode cX11_init 61 = .ok (.dup, 1) := by decide +kernel
theorem dX11_init_62 : decode cX11_init 62 = .ok (.invokespecial 41, 3) := by decide +kernel
theorem dX11_init_65 : decode cX11_init 65 = .ok (.putfield 42, 3) := by decide +kernel
theorem dX11_init_68 : decode cX11_init 68 = .ok (.aload_n 0, 1) := by decide +kernel
theorem dX11_init_69 : decode cX11_init 69 = .ok (.new 46, 3) := by decide +kernel
theorem dX11_init_72 : decode cX11_init 72 = .ok (.dup, 1) := by decide +kernel
theorem dX11_init_73 : decode cX11_init 73 = .ok (.invokespecial 48, 3) := by decide +kernel
theorem dX11_init_76 : decode cX11_init 76 = .ok (.putfield 49, 3) := by decide +kernel
theorem dX11_init_79 : decode cX11_init 79 = .ok (.aload_n 0, 1) := by decide +kernel
theorem dX11_init_80 : decode cX11_init 80 = .ok (.new 46, 3) := by decide +kernel
theorem dX11_init_83 : decode cX11_init 83 = .ok (.dup, 1) := by decide +kernel
theorem dX11_init_84 : decode cX11_init 84 = .ok (.invokespecial 48, 3) := by decide +kernel
theorem dX11_init_87 : decode cX11_init 87 = .ok (.putfield 53, 3) := by decide +kernel
theorem dX11_init_90 : decode cX11_init 90 = .ok (.aload_n 0, 1) := by decide +kernel
theorem dX11_init_91 : decode cX11_init 91 = .ok (.new 46, 3) := by decide +kernel
theorem dX11_init_94 : decode cX11_init 94 = .ok (.dup, 1) := by decide +kernel
theorem dX11_init_95 : decode cX11_init 95 = .ok (.invokespecial 48, 3) := by decide +kernel
theorem dX11_init_98 : decode cX11_init 98 = .ok (.putfield 56, 3) := by decide +kernel
theorem dX11_init_101 : decode cX11_init 101 = .ok (.aload_n 0, 1) := by decide +kernel
theorem dX11_init_102 : decode cX11_init 102 = .ok (.iconst 0, 1) := by decide +kernel
theorem dX11_init_103 : decode cX11_init 103 = .ok (.putfield 59, 3) := by decide +kernel
theorem dX11_init_106 : decode cX11_init 106 = .ok (.aload_n 0, 1) := by decide +kernel
theorem dX11_init_107 : decode cX11_init 107 = .ok (.iconst 0, 1) := by decide +kernel
theorem dX11_init_108 : decode cX11_init 108 = .ok (.putfield 63, 3) := by decide +kernel
theorem dX11_init_111 : decode cX11_init 111 = .ok (.iconst 0, 1) := by decide +kernel
theorem dX11_init_112 : decode cX11_init 112 = .ok (.istore_n 1, 1) := by decide +kernel
theorem dX11_init_113 : decode cX11_init 113 = .ok (.iload_n 1, 1) := by decide +kernel
theorem dX11_init_114 : decode cX11_init 114 = .ok (.iconst 4, 1) := by decide +kernel
theorem dX11_init_115 : decode cX11_init 115 = .ok (.if_icmp .ge 16, 3) := by decide +kernel
theorem dX11_init_118 : decode cX11_init 118 = .ok (.aload_n 0, 1) := by decide +kernel
theorem dX11_init_119 : decode cX11_init 119 = .ok (.getfield 33, 3) := by decide +kernel
theorem dX11_init_122 : decode cX11_init 122 = .ok (.iload_n 1, 1) := by decide +kernel
theorem dX11_init_123 : decode cX11_init 123 = .ok (.iconst (-1), 1) := by decide +kernel
theorem dX11_init_124 : decode cX11_init 124 = .ok (.iastore, 1) := by decide +kernel
theorem dX11_init_125 : decode cX11_init 125 = .ok (.iinc 1 1, 3) := by decide +kernel
theorem dX11_init_128 : decode cX11_init 128 = .ok (.goto (-15), 3) := by decide +kernel
theorem dX11_init_131 : decode cX11_init 131 = .ok (.return_, 1) := by decide +kernel
set_option maxRecDepth 20000 in
theorem ggX11_feed_X4_take : GoodIn wsX11_feed wsX4_take := goodIn_r _ [7, 8, 9, 22, 23, 24, 25, 26] (by decide +kernel) (by decide +kernel)
set_option maxRecDepth 20000 in
theorem gX11_feed_X4_take : GoodIn wsX11_feed (wsV RX11 70 RX4 yX4_take wsX4_take) := goodIn_app (goodIn_of _ (by decide +kernel)) ggX11_feed_X4_take
theorem dX11_feed_0 : decode cX11_feed 0 = .ok (.iload_n 3, 1) := by decide +kernel
theorem dX11_feed_1 : decode cX11_feed 1 = .ok (.iconst 1, 1) := by decide +kernel
theorem dX11_feed_2 : decode cX11_feed 2 = .ok (.if_icmp .lt 9, 3) := by decide +kernel
theorem dX11_feed_5 : decode cX11_feed 5 = .ok (.iload_n 3, 1) := by decide +kernel
theorem dX11_feed_6 : decode cX11_feed 6 = .ok (.bipush 8, 2) := by decide +kernel
theorem dX11_feed_8 : decode cX11_feed 8 = .ok (.if_icmp .le 5, 3) := by decide +kernel
theorem dX11_feed_11 : decode cX11_feed 11 = .ok (.iconst (-1), 1) := by decide +kernel
theorem dX11_feed_12 : decode cX11_feed 12 = .ok (.ireturn, 1) := by decide +kernel
theorem dX11_feed_13 : decode cX11_feed 13 = .ok (.aload_n 0, 1) := by decide +kernel
theorem dX11_feed_14 : decode cX11_feed 14 = .ok (.getfield 19, 3) := by decide +kernel
theorem dX11_feed_17 : decode cX11_feed 17 = .ok (.getfield 67, 3) := by decide +kernel
theorem dX11_feed_20 : decode cX11_feed 20 = .ok (.iload_n 3, 1) := by decide +kernel
theorem dX11_feed_21 : decode cX11_feed 21 = .ok (.iadd, 1) := by decide +kernel
theorem dX11_feed_22 : decode cX11_feed 22 = .ok (.sipush 200, 3) := by decide +kernel
theorem dX11_feed_25 : decode cX11_feed 25 = .ok (.if_icmp .le 6, 3) := by decide +kernel
theorem dX11_feed_28 : decode cX11_feed 28 = .ok (.bipush (-2), 2) := by decide +kernel
theorem dX11_feed_30 : decode cX11_feed 30 = .ok (.ireturn, 1) := by decide +kernel
theorem dX11_feed_31 : decode cX11_feed 31 = .ok (.aload_n 0, 1) := by decide +kernel
theorem dX11_feed_32 : decode cX11_feed 32 = .ok (.getfield 19, 3) := by decide +kernel
theorem dX11_feed_35 : decode cX11_feed 35 = .ok (.lload_n 1, 1) := by decide +kernel
theorem dX11_feed_36 : decode cX11_feed 36 = .ok (.iload_n 3, 1) := by decide +kernel
theorem dX11_feed_37 : decode cX11_feed 37 = .ok (.invokevirtual 70, 3) := by decide +kernel
theorem dX11_feed_40 : decode cX11_feed 40 = .ok (.aload_n 0, 1) := by decide +kernel
theorem dX11_feed_41 : decode cX11_feed 41 = .ok (.getfield 19, 3) := by decide +kernel
theorem dX11_feed_44 : decode cX11_feed 44 = .ok (.getfield 67, 3) := by decide +kernel
theorem dX11_feed_47 : decode cX11_feed 47 = .ok (.ireturn, 1) := by decide +kernel
set_option maxRecDepth 20000 in
theorem ggX11_quarry_X10_clear : GoodIn wsX11_quarry wsX10_clear := goodIn_r _ [11, 12, 13, 14, 15, 167, 168, 169, 170, 171, 172] (by decide +kernel) (by decide +kernel)
set_option maxRecDepth 20000 in
theorem gX11_quarry_X10_clear : GoodIn wsX11_quarry (wsV RX11 74 RX10 yX10_clear wsX10_clear) := goodIn_app (goodIn_of _ (by decide +kernel)) ggX11_quarry_X10_clear
set_option maxRecDepth 20000 in
theorem ggX11_quarry_X4_readInto : GoodIn wsX11_quarry wsX4_readInto := goodIn_r _ [20, 21, 22, 23, 24, 25, 26, 19, 27, 28, 29, 30, 31, 32, 33, 34, 35, 36, 37, 38, 39, 40, 41, 42, 43, 44, 45, 46, 47, 48, 49, 50, 51, 52, 53, 54, 55, 56, 57, 58, 59, 60, 61, 62, 63, 64, 65, 66, 67, 68, 69, 70, 71, 72, 73, 74, 75, 76, 77, 78, 79, 80, 81, 82, 83, 84, 85, 86, 87, 88, 89, 90, 91, 92, 93, 94, 95, 96, 97, 98, 99, 10, 100, 12, 101, 102, 103, 104, 105, 106, 107, 108, 109, 110, 111, 112, 113, 114, 115, 116, 117, 118, 119, 120, 121, 122, 123, 124, 125, 126, 127, 128, 129, 130, 131, 132, 133, 134, 135, 136, 137, 138, 139, 140, 141, 142, 143, 144, 145, 146, 147, 148, 149, 150, 151, 152, 153, 154, 173, 174, 175, 176, 177, 167, 168, 169, 170, 171, 172, 178, 179, 180, 181, 182] (by decide +kernel) (by decide +kernel)
set_option maxRecDepth 20000 in
theorem gX11_quarry_X4_readInto : GoodIn wsX11_quarry (wsV RX11 80 RX4 yX4_readInto wsX4_readInto) := goodIn_app (goodIn_of _ (by decide +kernel)) ggX11_quarry_X4_readInto
theorem dX11_quarry_0 : decode cX11_quarry 0 = .ok (.aload_n 0, 1) := by decide +kernel
theorem dX11_quarry_1 : decode cX11_quarry 1 = .ok (.getfield 56, 3) := by decide +kernel
theorem dX11_quarry_4 : decode cX11_quarry 4 = .ok (.invokevirtual 74, 3) := by decide +kernel
theorem dX11_quarry_7 : decode cX11_quarry 7 = .ok (.aload_n 0, 1) := by decide +kernel
theorem dX11_quarry_8 : decode cX11_quarry 8 = .ok (.getfield 56, 3) := by decide +kernel
theorem dX11_quarry_11 : decode cX11_quarry 11 = .ok (.aload_n 0, 1) := by decide +kernel
theorem dX11_quarry_12 : decode cX11_quarry 12 = .ok (.getfield 53, 3) := by decide +kernel
theorem dX11_quarry_15 : decode cX11_quarry 15 = .ok (.getfield 77, 3) := by decide +kernel
theorem dX11_quarry_18 : decode cX11_quarry 18 = .ok (.putfield 77, 3) := by decide +kernel
theorem dX11_quarry_21 : decode cX11_quarry 21 = .ok (.aload_n 0, 1) := by decide +kernel
theorem dX11_quarry_22 : decode cX11_quarry 22 = .ok (.getfield 19, 3) := by decide +kernel
theorem dX11_quarry_25 : decode cX11_quarry 25 = .ok (.aload_n 0, 1) := by decide +kernel
theorem dX11_quarry_26 : decode cX11_quarry 26 = .ok (.getfield 56, 3) := by decide +kernel
theorem dX11_quarry_29 : decode cX11_quarry 29 = .ok (.invokevirtual 80, 3) := by decide +kernel
theorem dX11_quarry_32 : decode cX11_quarry 32 = .ok (.istore_n 1, 1) := by decide +kernel
theorem dX11_quarry_33 : decode cX11_quarry 33 = .ok (.iload_n 1, 1) := by decide +kernel
theorem dX11_quarry_34 : decode cX11_quarry 34 = .ok (.ifCond .lt 8, 3) := by decide +kernel
theorem dX11_quarry_37 : decode cX11_quarry 37 = .ok (.bipush (-100), 2) := by decide +kernel
theorem dX11_quarry_39 : decode cX11_quarry 39 = .ok (.iload_n 1, 1) := by decide +kernel
theorem dX11_quarry_40 : decode cX11_quarry 40 = .ok (.isub, 1) := by decide +kernel
theorem dX11_quarry_41 : decode cX11_quarry 41 = .ok (.ireturn, 1) := by decide +kernel
theorem dX11_quarry_42 : decode cX11_quarry 42 = .ok (.aload_n 0, 1) := by decide +kernel
theorem dX11_quarry_43 : decode cX11_quarry 43 = .ok (.getfield 53, 3) := by decide +kernel
theorem dX11_quarry_46 : decode cX11_quarry 46 = .ok (.astore_n 2, 1) := by decide +kernel
theorem dX11_quarry_47 : decode cX11_quarry 47 = .ok (.aload_n 0, 1) := by decide +kernel
theorem dX11_quarry_48 : decode cX11_quarry 48 = .ok (.aload_n 0, 1) := by decide +kernel
theorem dX11_quarry_49 : decode cX11_quarry 49 = .ok (.getfield 56, 3) := by decide +kernel
theorem dX11_quarry_52 : decode cX11_quarry 52 = .ok (.putfield 53, 3) := by decide +kernel
theorem dX11_quarry_55 : decode cX11_quarry 55 = .ok (.aload_n 0, 1) := by decide +kernel
theorem dX11_quarry_56 : decode cX11_quarry 56 = .ok (.aload_n 2, 1) := by decide +kernel
theorem dX11_quarry_57 : decode cX11_quarry 57 = .ok (.putfield 56, 3) := by decide +kernel
theorem dX11_quarry_60 : decode cX11_quarry 60 = .ok (.aload_n 0, 1) := by decide +kernel
theorem dX11_quarry_61 : decode cX11_quarry 61 = .ok (.iconst 0, 1) := by decide +kernel
theorem dX11_quarry_62 : decode cX11_quarry 62 = .ok (.putfield 63, 3) := by decide +kernel
theorem dX11_quarry_65 : decode cX11_quarry 65 = .ok (.aload_n 0, 1) := by decide +kernel
theorem dX11_quarry_66 : decode cX11_quarry 66 = .ok (.getfield 53, 3) := by decide +kernel
theorem dX11_quarry_69 : decode cX11_quarry 69 = .ok (.getfield 84, 3) := by decide +kernel
theorem dX11_quarry_72 : decode cX11_quarry 72 = .ok (.ireturn, 1) := by decide +kernel
set_option maxRecDepth 20000 in
theorem ggX11_view_X11_isPlace : GoodIn wsX11_view wsX11_isPlace := goodIn_r _ [6] (by decide +kernel) (by decide +kernel)
set_option maxRecDepth 20000 in
theorem gX11_view_X11_isPlace : GoodIn wsX11_view (va_wsS RX11 87 yX11_isPlace wsX11_isPlace) := goodIn_app (goodIn_of _ (by decide +kernel)) ggX11_view_X11_isPlace
set_option maxRecDepth 20000 in
theorem ggX11_view_X11_isDay : GoodIn wsX11_view wsX11_isDay := goodIn_r _ [9] (by decide +kernel) (by decide +kernel)
set_option maxRecDepth 20000 in
theorem gX11_view_X11_isDay : GoodIn wsX11_view (va_wsS RX11 91 yX11_isDay wsX11_isDay) := goodIn_app (goodIn_of _ (by decide +kernel)) ggX11_view_X11_isDay
set_option maxRecDepth 20000 in
theorem ggX11_view_X11_viewSlot : GoodIn wsX11_view wsX11_viewSlot := goodIn_r _ [12] (by decide +kernel) (by decide +kernel)
set_option maxRecDepth 20000 in
theorem gX11_view_X11_viewSlot : GoodIn wsX11_view (va_wsS RX11 94 yX11_viewSlot wsX11_viewSlot) := goodIn_app (goodIn_of _ (by decide +kernel)) ggX11_view_X11_viewSlot
theorem dX11_view_0 : decode cX11_view 0 = .ok (.iload_n 1, 1) := by decide +kernel
theorem dX11_view_1 : decode cX11_view 1 = .ok (.invokestatic 87, 3) := by decide +kernel
theorem dX11_view_4 : decode cX11_view 4 = .ok (.ifCond .eq 20, 3) := by decide +kernel
theorem dX11_view_7 : decode cX11_view 7 = .ok (.iload_n 2, 1) := by decide +kernel
theorem dX11_view_8 : decode cX11_view 8 = .ok (.invokestatic 91, 3) := by decide +kernel
theorem dX11_view_11 : decode cX11_view 11 = .ok (.ifCond .eq 13, 3) := by decide +kernel
theorem dX11_view_14 : decode cX11_view 14 = .ok (.iload_n 3, 1) := by decide +kernel
theorem dX11_view_15 : decode cX11_view 15 = .ok (.ifCond .lt 9, 3) := by decide +kernel
theorem dX11_view_18 : decode cX11_view 18 = .ok (.iload_n 3, 1) := by decide +kernel
theorem dX11_view_19 : decode cX11_view 19 = .ok (.bipush 99, 2) := by decide +kernel
theorem dX11_view_21 : decode cX11_view 21 = .ok (.if_icmp .le 5, 3) := by decide +kernel
theorem dX11_view_24 : decode cX11_view 24 = .ok (.iconst (-1), 1) := by decide +kernel
theorem dX11_view_25 : decode cX11_view 25 = .ok (.ireturn, 1) := by decide +kernel
theorem dX11_view_26 : decode cX11_view 26 = .ok (.iload_n 1, 1) := by decide +kernel
theorem dX11_view_27 : decode cX11_view 27 = .ok (.iload_n 2, 1) := by decide +kernel
theorem dX11_view_28 : decode cX11_view 28 = .ok (.invokestatic 94, 3) := by decide +kernel
theorem dX11_view_31 : decode cX11_view 31 = .ok (.istore 4, 2) := by decide +kernel
theorem dX11_view_33 : decode cX11_view 33 = .ok (.aload_n 0, 1) := by decide +kernel
theorem dX11_view_34 : decode cX11_view 34 = .ok (.getfield 53, 3) := by decide +kernel
theorem dX11_view_37 : decode cX11_view 37 = .ok (.getfield 98, 3) := by decide +kernel
theorem dX11_view_40 : decode cX11_view 40 = .ok (.iload 4, 2) := by decide +kernel
theorem dX11_view_42 : decode cX11_view 42 = .ok (.iaload, 1) := by decide +kernel
theorem dX11_view_43 : decode cX11_view 43 = .ok (.istore 5, 2) := by decide +kernel
theorem dX11_view_45 : decode cX11_view 45 = .ok (.aload_n 0, 1) := by decide +kernel
theorem dX11_view_46 : decode cX11_view 46 = .ok (.getfield 53, 3) := by decide +kernel
theorem dX11_view_49 : decode cX11_view 49 = .ok (.getfield 98, 3) := by decide +kernel
theorem dX11_view_52 : decode cX11_view 52 = .ok (.iload 4, 2) := by decide +kernel
theorem dX11_view_54 : decode cX11_view 54 = .ok (.iload_n 3, 1) := by decide +kernel
theorem dX11_view_55 : decode cX11_view 55 = .ok (.iastore, 1) := by decide +kernel
theorem dX11_view_56 : decode cX11_view 56 = .ok (.iload 5, 2) := by decide +kernel
theorem dX11_view_58 : decode cX11_view 58 = .ok (.ireturn, 1) := by decide +kernel
set_option maxRecDepth 20000 in
theorem ggX11_viewOf_X11_isPlace : GoodIn wsX11_viewOf wsX11_isPlace := goodIn_r _ [6] (by decide +kernel) (by decide +kernel)
set_option maxRecDepth 20000 in
theorem gX11_viewOf_X11_isPlace : GoodIn wsX11_viewOf (va_wsS RX11 87 yX11_isPlace wsX11_isPlace) := goodIn_app (goodIn_of _ (by decide +kernel)) ggX11_viewOf_X11_isPlace
set_option maxRecDepth 20000 in
theorem ggX11_viewOf_X11_isDay : GoodIn wsX11_viewOf wsX11_isDay := goodIn_r _ [9] (by decide +kernel) (by decide +kernel)
set_option maxRecDepth 20000 in
theorem gX11_viewOf_X11_isDay : GoodIn wsX11_viewOf (va_wsS RX11 91 yX11_isDay wsX11_isDay) := goodIn_app (goodIn_of _ (by decide +kernel)) ggX11_viewOf_X11_isDay
set_option maxRecDepth 20000 in
theorem ggX11_viewOf_X11_viewSlot : GoodIn wsX11_viewOf wsX11_viewSlot := goodIn_r _ [12] (by decide +kernel) (by decide +kernel)
set_option maxRecDepth 20000 in
theorem gX11_viewOf_X11_viewSlot : GoodIn wsX11_viewOf (va_wsS RX11 94 yX11_viewSlot wsX11_viewSlot) := goodIn_app (goodIn_of _ (by decide +kernel)) ggX11_viewOf_X11_viewSlot
theorem dX11_viewOf_0 : decode cX11_viewOf 0 = .ok (.iload_n 1, 1) := by decide +kernel
theorem dX11_viewOf_1 : decode cX11_viewOf 1 = .ok (.invokestatic 87, 3) := by decide +kernel
theorem dX11_viewOf_4 : decode cX11_viewOf 4 = .ok (.ifCond .eq 10, 3) := by decide +kernel
theorem dX11_viewOf_7 : decode cX11_viewOf 7 = .ok (.iload_n 2, 1) := by decide +kernel
theorem dX11_viewOf_8 : decode cX11_viewOf 8 = .ok (.invokestatic 91, 3) := by decide +kernel
theorem dX11_viewOf_11 : decode cX11_viewOf 11 = .ok (.ifCond .ne 5, 3) := by decide +kernel
theorem dX11_viewOf_14 : decode cX11_viewOf 14 = .ok (.iconst (-1), 1) := by decide +kernel
theorem dX11_viewOf_15 : decode cX11_viewOf 15 = .ok (.ireturn, 1) := by decide +kernel
theorem dX11_viewOf_16 : decode cX11_viewOf 16 = .ok (.aload_n 0, 1) := by decide +kernel
theorem dX11_viewOf_17 : decode cX11_viewOf 17 = .ok (.getfield 53, 3) := by decide +kernel
theorem dX11_viewOf_20 : decode cX11_viewOf 20 = .ok (.getfield 98, 3) := by decide +kernel
theorem dX11_viewOf_23 : decode cX11_viewOf 23 = .ok (.iload_n 1, 1) := by decide +kernel
theorem dX11_viewOf_24 : decode cX11_viewOf 24 = .ok (.iload_n 2, 1) := by decide +kernel
theorem dX11_viewOf_25 : decode cX11_viewOf 25 = .ok (.invokestatic 94, 3) := by decide +kernel
theorem dX11_viewOf_28 : decode cX11_viewOf 28 = .ok (.iaload, 1) := by decide +kernel
theorem dX11_viewOf_29 : decode cX11_viewOf 29 = .ok (.ireturn, 1) := by decide +kernel
set_option maxRecDepth 20000 in
theorem ggX11_love_X11_isLooker : GoodIn wsX11_love wsX11_isLooker := goodIn_r _ [6] (by decide +kernel) (by decide +kernel)
set_option maxRecDepth 20000 in
theorem gX11_love_X11_isLooker : GoodIn wsX11_love (va_wsS RX11 101 yX11_isLooker wsX11_isLooker) := goodIn_app (goodIn_of _ (by decide +kernel)) ggX11_love_X11_isLooker
set_option maxRecDepth 20000 in
theorem ggX11_love_X11_isPlace : GoodIn wsX11_love wsX11_isPlace := goodIn_r _ [9] (by decide +kernel) (by decide +kernel)
set_option maxRecDepth 20000 in
theorem gX11_love_X11_isPlace : GoodIn wsX11_love (va_wsS RX11 87 yX11_isPlace wsX11_isPlace) := goodIn_app (goodIn_of _ (by decide +kernel)) ggX11_love_X11_isPlace
set_option maxRecDepth 20000 in
theorem ggX11_love_X11_loveSlot : GoodIn wsX11_love wsX11_loveSlot := goodIn_r _ [12] (by decide +kernel) (by decide +kernel)
set_option maxRecDepth 20000 in
theorem gX11_love_X11_loveSlot : GoodIn wsX11_love (va_wsS RX11 104 yX11_loveSlot wsX11_loveSlot) := goodIn_app (goodIn_of _ (by decide +kernel)) ggX11_love_X11_loveSlot
theorem dX11_love_0 : decode cX11_love 0 = .ok (.iload_n 1, 1) := by decide +kernel
theorem dX11_love_1 : decode cX11_love 1 = .ok (.invokestatic 101, 3) := by decide +kernel
theorem dX11_love_4 : decode cX11_love 4 = .ok (.ifCond .eq 20, 3) := by decide +kernel
theorem dX11_love_7 : decode cX11_love 7 = .ok (.iload_n 2, 1) := by decide +kernel
theorem dX11_love_8 : decode cX11_love 8 = .ok (.invokestatic 87, 3) := by decide +kernel
theorem dX11_love_11 : decode cX11_love 11 = .ok (.ifCond .eq 13, 3) := by decide +kernel
theorem dX11_love_14 : decode cX11_love 14 = .ok (.iload_n 3, 1) := by decide +kernel
theorem dX11_love_15 : decode cX11_love 15 = .ok (.ifCond .lt 9, 3) := by decide +kernel
theorem dX11_love_18 : decode cX11_love 18 = .ok (.iload_n 3, 1) := by decide +kernel
theorem dX11_love_19 : decode cX11_love 19 = .ok (.bipush 9, 2) := by decide +kernel
theorem dX11_love_21 : decode cX11_love 21 = .ok (.if_icmp .le 5, 3) := by decide +kernel
theorem dX11_love_24 : decode cX11_love 24 = .ok (.iconst (-1), 1) := by decide +kernel
theorem dX11_love_25 : decode cX11_love 25 = .ok (.ireturn, 1) := by decide +kernel
theorem dX11_love_26 : decode cX11_love 26 = .ok (.iload_n 1, 1) := by decide +kernel
theorem dX11_love_27 : decode cX11_love 27 = .ok (.iload_n 2, 1) := by decide +kernel
theorem dX11_love_28 : decode cX11_love 28 = .ok (.invokestatic 104, 3) := by decide +kernel
theorem dX11_love_31 : decode cX11_love 31 = .ok (.istore 4, 2) := by decide +kernel
theorem dX11_love_33 : decode cX11_love 33 = .ok (.aload_n 0, 1) := by decide +kernel
theorem dX11_love_34 : decode cX11_love 34 = .ok (.getfield 53, 3) := by decide +kernel
theorem dX11_love_37 : decode cX11_love 37 = .ok (.getfield 107, 3) := by decide +kernel
theorem dX11_love_40 : decode cX11_love 40 = .ok (.iload 4, 2) := by decide +kernel
theorem dX11_love_42 : decode cX11_love 42 = .ok (.iaload, 1) := by decide +kernel
theorem dX11_love_43 : decode cX11_love 43 = .ok (.istore 5, 2) := by decide +kernel
theorem dX11_love_45 : decode cX11_love 45 = .ok (.aload_n 0, 1) := by decide +kernel
theorem dX11_love_46 : decode cX11_love 46 = .ok (.getfield 53, 3) := by decide +kernel
theorem dX11_love_49 : decode cX11_love 49 = .ok (.getfield 107, 3) := by decide +kernel
theorem dX11_love_52 : decode cX11_love 52 = .ok (.iload 4, 2) := by decide +kernel
theorem dX11_love_54 : decode cX11_love 54 = .ok (.iload_n 3, 1) := by decide +kernel
theorem dX11_love_55 : decode cX11_love 55 = .ok (.iastore, 1) := by decide +kernel
theorem dX11_love_56 : decode cX11_love 56 = .ok (.iload 5, 2) := by decide +kernel
theorem dX11_love_58 : decode cX11_love 58 = .ok (.ireturn, 1) := by decide +kernel
set_option maxRecDepth 20000 in
theorem ggX11_pane_X11_isKind : GoodIn wsX11_pane wsX11_isKind := goodIn_r _ [6] (by decide +kernel) (by decide +kernel)
set_option maxRecDepth 20000 in
theorem gX11_pane_X11_isKind : GoodIn wsX11_pane (va_wsS RX11 110 yX11_isKind wsX11_isKind) := goodIn_app (goodIn_of _ (by decide +kernel)) ggX11_pane_X11_isKind
set_option maxRecDepth 20000 in
theorem ggX11_pane_X10_isFull : GoodIn wsX11_pane wsX10_isFull := goodIn_r _ [11, 12, 44, 45, 46, 47, 48, 49] (by decide +kernel) (by decide +kernel)
set_option maxRecDepth 20000 in
theorem gX11_pane_X10_isFull : GoodIn wsX11_pane (wsV RX11 113 RX10 yX10_isFull wsX10_isFull) := goodIn_app (goodIn_of _ (by decide +kernel)) ggX11_pane_X10_isFull
set_option maxRecDepth 20000 in
theorem ggX11_pane_X10_addPane : GoodIn wsX11_pane wsX10_addPane := goodIn_r _ [16, 17, 12, 18, 19, 20, 21, 22, 23, 24, 25, 26, 27, 28, 29, 30, 31, 44, 45, 46, 47, 48, 49, 50, 51, 52, 53, 54] (by decide +kernel) (by decide +kernel)
set_option maxRecDepth 20000 in
theorem gX11_pane_X10_addPane : GoodIn wsX11_pane (wsV RX11 117 RX10 yX10_addPane wsX10_addPane) := goodIn_app (goodIn_of _ (by decide +kernel)) ggX11_pane_X10_addPane
theorem dX11_pane_0 : decode cX11_pane 0 = .ok (.iload_n 1, 1) := by decide +kernel
theorem dX11_pane_1 : decode cX11_pane 1 = .ok (.invokestatic 110, 3) := by decide +kernel
theorem dX11_pane_4 : decode cX11_pane 4 = .ok (.ifCond .eq 14, 3) := by decide +kernel
theorem dX11_pane_7 : decode cX11_pane 7 = .ok (.iload_n 2, 1) := by decide +kernel
theorem dX11_pane_8 : decode cX11_pane 8 = .ok (.iconst 1, 1) := by decide +kernel
theorem dX11_pane_9 : decode cX11_pane 9 = .ok (.if_icmp .lt 9, 3) := by decide +kernel
theorem dX11_pane_12 : decode cX11_pane 12 = .ok (.iload_n 2, 1) := by decide +kernel
theorem dX11_pane_13 : decode cX11_pane 13 = .ok (.bipush 16, 2) := by decide +kernel
theorem dX11_pane_15 : decode cX11_pane 15 = .ok (.if_icmp .le 5, 3) := by decide +kernel
theorem dX11_pane_18 : decode cX11_pane 18 = .ok (.iconst (-1), 1) := by decide +kernel
theorem dX11_pane_19 : decode cX11_pane 19 = .ok (.ireturn, 1) := by decide +kernel
theorem dX11_pane_20 : decode cX11_pane 20 = .ok (.aload_n 0, 1) := by decide +kernel
theorem dX11_pane_21 : decode cX11_pane 21 = .ok (.getfield 53, 3) := by decide +kernel
theorem dX11_pane_24 : decode cX11_pane 24 = .ok (.invokevirtual 113, 3) := by decide +kernel
theorem dX11_pane_27 : decode cX11_pane 27 = .ok (.ifCond .eq 6, 3) := by decide +kernel
theorem dX11_pane_30 : decode cX11_pane 30 = .ok (.bipush (-2), 2) := by decide +kernel
theorem dX11_pane_32 : decode cX11_pane 32 = .ok (.ireturn, 1) := by decide +kernel
theorem dX11_pane_33 : decode cX11_pane 33 = .ok (.aload_n 0, 1) := by decide +kernel
theorem dX11_pane_34 : decode cX11_pane 34 = .ok (.getfield 53, 3) := by decide +kernel
theorem dX11_pane_37 : decode cX11_pane 37 = .ok (.iload_n 1, 1) := by decide +kernel
theorem dX11_pane_38 : decode cX11_pane 38 = .ok (.iload_n 2, 1) := by decide +kernel
theorem dX11_pane_39 : decode cX11_pane 39 = .ok (.invokevirtual 117, 3) := by decide +kernel
theorem dX11_pane_42 : decode cX11_pane 42 = .ok (.pop, 1) := by decide +kernel
theorem dX11_pane_43 : decode cX11_pane 43 = .ok (.aload_n 0, 1) := by decide +kernel
theorem dX11_pane_44 : decode cX11_pane 44 = .ok (.getfield 53, 3) := by decide +kernel
theorem dX11_pane_47 : decode cX11_pane 47 = .ok (.getfield 84, 3) := by decide +kernel
theorem dX11_pane_50 : decode cX11_pane 50 = .ok (.iconst 1, 1) := by decide +kernel
theorem dX11_pane_51 : decode cX11_pane 51 = .ok (.isub, 1) := by decide +kernel
theorem dX11_pane_52 : decode cX11_pane 52 = .ok (.ireturn, 1) := by decide +kernel
set_option maxRecDepth 20000 in
theorem ggX11_paneOf_X11_isPane : GoodIn wsX11_paneOf wsX11_isPane := goodIn_r _ [10, 1, 11, 51, 52, 53, 54, 55, 56, 57, 58, 59, 60, 61, 62, 63, 64, 65, 66, 67, 68] (by decide +kernel) (by decide +kernel)
set_option maxRecDepth 20000 in
theorem gX11_paneOf_X11_isPane : GoodIn wsX11_paneOf (wsV RX11 121 RX11 yX11_isPane wsX11_isPane) := goodIn_app (goodIn_of _ (by decide +kernel)) ggX11_paneOf_X11_isPane
set_option maxRecDepth 20000 in
theorem ggX11_paneOf_X3_placeTold : GoodIn wsX11_paneOf wsX3_placeTold := goodIn_r _ [16, 17, 69, 70, 71, 72, 73] (by decide +kernel) (by decide +kernel)
set_option maxRecDepth 20000 in
theorem gX11_paneOf_X3_placeTold : GoodIn wsX11_paneOf (wsV RX11 132 RX3 yX3_placeTold wsX3_placeTold) := goodIn_app (goodIn_of _ (by decide +kernel)) ggX11_paneOf_X3_placeTold
set_option maxRecDepth 20000 in
theorem ggX11_paneOf_X10_shownBy : GoodIn wsX11_paneOf wsX10_shownBy := goodIn_r _ [22, 23, 24, 25, 26, 15, 27, 28, 29, 30, 31, 32, 33, 34, 35, 36, 37, 21, 38, 39, 40, 9, 41, 42, 43, 44, 45, 69, 70, 71, 72, 73, 63, 64, 65, 66, 67, 68] (by decide +kernel) (by decide +kernel)
set_option maxRecDepth 20000 in
theorem gX11_paneOf_X10_shownBy : GoodIn wsX11_paneOf (wsV RX11 136 RX10 yX10_shownBy wsX10_shownBy) := goodIn_app (goodIn_of _ (by decide +kernel)) ggX11_paneOf_X10_shownBy
set_option maxRecDepth 20000 in
theorem ggX11_paneOf_X3_movesOn : GoodIn wsX11_paneOf wsX3_movesOn := goodIn_r _ [49, 50, 69, 70, 71, 72, 73] (by decide +kernel) (by decide +kernel)
set_option maxRecDepth 20000 in
theorem gX11_paneOf_X3_movesOn : GoodIn wsX11_paneOf (wsV RX11 143 RX3 yX3_movesOn wsX3_movesOn) := goodIn_app (goodIn_of _ (by decide +kernel)) ggX11_paneOf_X3_movesOn
theorem dX11_paneOf_0 : decode cX11_paneOf 0 = .ok (.aload_n 0, 1) := by decide +kernel
theorem dX11_paneOf_1 : decode cX11_paneOf 1 = .ok (.iload_n 1, 1) := by decide +kernel
theorem dX11_paneOf_2 : decode cX11_paneOf 2 = .ok (.invokevirtual 121, 3) := by decide +kernel
theorem dX11_paneOf_5 : decode cX11_paneOf 5 = .ok (.ifCond .ne 5, 3) := by decide +kernel
theorem dX11_paneOf_8 : decode cX11_paneOf 8 = .ok (.iconst (-1), 1) := by decide +kernel
theorem dX11_paneOf_9 : decode cX11_paneOf 9 = .ok (.ireturn, 1) := by decide +kernel
theorem dX11_paneOf_10 : decode cX11_paneOf 10 = .ok (.aload_n 0, 1) := by decide +kernel
theorem dX11_paneOf_11 : decode cX11_paneOf 11 = .ok (.getfield 53, 3) := by decide +kernel
theorem dX11_paneOf_14 : decode cX11_paneOf 14 = .ok (.getfield 124, 3) := by decide +kernel
theorem dX11_paneOf_17 : decode cX11_paneOf 17 = .ok (.iload_n 1, 1) := by decide +kernel
theorem dX11_paneOf_18 : decode cX11_paneOf 18 = .ok (.aaload, 1) := by decide +kernel
theorem dX11_paneOf_19 : decode cX11_paneOf 19 = .ok (.astore_n 3, 1) := by decide +kernel
theorem dX11_paneOf_20 : decode cX11_paneOf 20 = .ok (.iload_n 2, 1) := by decide +kernel
theorem dX11_paneOf_21 : decode cX11_paneOf 21 = .ok (.tableswitch 91 0 4 #[35, 40, 45, 50, 59], 35) := by decide +kernel
theorem dX11_paneOf_56 : decode cX11_paneOf 56 = .ok (.aload_n 3, 1) := by decide +kernel
theorem dX11_paneOf_57 : decode cX11_paneOf 57 = .ok (.getfield 128, 3) := by decide +kernel
theorem dX11_paneOf_60 : decode cX11_paneOf 60 = .ok (.ireturn, 1) := by decide +kernel
theorem dX11_paneOf_61 : decode cX11_paneOf 61 = .ok (.aload_n 3, 1) := by decide +kernel
theorem dX11_paneOf_62 : decode cX11_paneOf 62 = .ok (.getfield 131, 3) := by decide +kernel
theorem dX11_paneOf_65 : decode cX11_paneOf 65 = .ok (.ireturn, 1) := by decide +kernel
theorem dX11_paneOf_66 : decode cX11_paneOf 66 = .ok (.aload_n 3, 1) := by decide +kernel
theorem dX11_paneOf_67 : decode cX11_paneOf 67 = .ok (.invokevirtual 132, 3) := by decide +kernel
theorem dX11_paneOf_70 : decode cX11_paneOf 70 = .ok (.ireturn, 1) := by decide +kernel
theorem dX11_paneOf_71 : decode cX11_paneOf 71 = .ok (.aload_n 0, 1) := by decide +kernel
theorem dX11_paneOf_72 : decode cX11_paneOf 72 = .ok (.getfield 53, 3) := by decide +kernel
theorem dX11_paneOf_75 : decode cX11_paneOf 75 = .ok (.aload_n 3, 1) := by decide +kernel
theorem dX11_paneOf_76 : decode cX11_paneOf 76 = .ok (.invokevirtual 136, 3) := by decide +kernel
theorem dX11_paneOf_79 : decode cX11_paneOf 79 = .ok (.ireturn, 1) := by decide +kernel
theorem dX11_paneOf_80 : decode cX11_paneOf 80 = .ok (.aload_n 0, 1) := by decide +kernel
theorem dX11_paneOf_81 : decode cX11_paneOf 81 = .ok (.getfield 53, 3) := by decide +kernel
theorem dX11_paneOf_84 : decode cX11_paneOf 84 = .ok (.getfield 140, 3) := by decide +kernel
theorem dX11_paneOf_87 : decode cX11_paneOf 87 = .ok (.bipush 50, 2) := by decide +kernel
theorem dX11_paneOf_89 : decode cX11_paneOf 89 = .ok (.if_icmp .ge 21, 3) := by decide +kernel
theorem dX11_paneOf_92 : decode cX11_paneOf 92 = .ok (.aload_n 3, 1) := by decide +kernel
theorem dX11_paneOf_93 : decode cX11_paneOf 93 = .ok (.aload_n 0, 1) := by decide +kernel
theorem dX11_paneOf_94 : decode cX11_paneOf 94 = .ok (.getfield 53, 3) := by decide +kernel
theorem dX11_paneOf_97 : decode cX11_paneOf 97 = .ok (.getfield 140, 3) := by decide +kernel
theorem dX11_paneOf_100 : decode cX11_paneOf 100 = .ok (.invokevirtual 143, 3) := by decide +kernel
theorem dX11_paneOf_103 : decode cX11_paneOf 103 = .ok (.ifCond .eq 7, 3) := by decide +kernel
theorem dX11_paneOf_106 : decode cX11_paneOf 106 = .ok (.iconst 1, 1) := by decide +kernel
theorem dX11_paneOf_107 : decode cX11_paneOf 107 = .ok (.goto 4, 3) := by decide +kernel
theorem dX11_paneOf_110 : decode cX11_paneOf 110 = .ok (.iconst 0, 1) := by decide +kernel
theorem dX11_paneOf_111 : decode cX11_paneOf 111 = .ok (.ireturn, 1) := by decide +kernel
theorem dX11_paneOf_112 : decode cX11_paneOf 112 = .ok (.iconst (-1), 1) := by decide +kernel
theorem dX11_paneOf_113 : decode cX11_paneOf 113 = .ok (.ireturn, 1) := by decide +kernel
set_option maxRecDepth 20000 in
theorem ggX11_glimpse_X11_isPane : GoodIn wsX11_glimpse wsX11_isPane := goodIn_r _ [8, 1, 9, 17, 18, 19, 20, 21, 22, 23, 24, 25, 26, 27, 28, 29, 30, 31, 32, 33, 34] (by decide +kernel) (by decide +kernel)
set_option maxRecDepth 20000 in
theorem gX11_glimpse_X11_isPane : GoodIn wsX11_glimpse (wsV RX11 121 RX11 yX11_isPane wsX11_isPane) := goodIn_app (goodIn_of _ (by decide +kernel)) ggX11_glimpse_X11_isPane
set_option maxRecDepth 20000 in
theorem ggX11_glimpse_X3_glimpseAt : GoodIn wsX11_glimpse wsX3_glimpseAt := goodIn_r _ [14, 15, 16, 35, 36, 37, 38, 39] (by decide +kernel) (by decide +kernel)
set_option maxRecDepth 20000 in
theorem gX11_glimpse_X3_glimpseAt : GoodIn wsX11_glimpse (wsV RX11 146 RX3 yX3_glimpseAt wsX3_glimpseAt) := goodIn_app (goodIn_of _ (by decide +kernel)) ggX11_glimpse_X3_glimpseAt
theorem dX11_glimpse_0 : decode cX11_glimpse 0 = .ok (.aload_n 0, 1) := by decide +kernel
theorem dX11_glimpse_1 : decode cX11_glimpse 1 = .ok (.iload_n 1, 1) := by decide +kernel
theorem dX11_glimpse_2 : decode cX11_glimpse 2 = .ok (.invokevirtual 121, 3) := by decide +kernel
theorem dX11_glimpse_5 : decode cX11_glimpse 5 = .ok (.ifCond .ne 5, 3) := by decide +kernel
theorem dX11_glimpse_8 : decode cX11_glimpse 8 = .ok (.iconst (-1), 1) := by decide +kernel
theorem dX11_glimpse_9 : decode cX11_glimpse 9 = .ok (.ireturn, 1) := by decide +kernel
theorem dX11_glimpse_10 : decode cX11_glimpse 10 = .ok (.aload_n 0, 1) := by decide +kernel
theorem dX11_glimpse_11 : decode cX11_glimpse 11 = .ok (.getfield 53, 3) := by decide +kernel
theorem dX11_glimpse_14 : decode cX11_glimpse 14 = .ok (.getfield 124, 3) := by decide +kernel
theorem dX11_glimpse_17 : decode cX11_glimpse 17 = .ok (.iload_n 1, 1) := by decide +kernel
theorem dX11_glimpse_18 : decode cX11_glimpse 18 = .ok (.aaload, 1) := by decide +kernel
theorem dX11_glimpse_19 : decode cX11_glimpse 19 = .ok (.astore_n 3, 1) := by decide +kernel
theorem dX11_glimpse_20 : decode cX11_glimpse 20 = .ok (.iload_n 2, 1) := by decide +kernel
theorem dX11_glimpse_21 : decode cX11_glimpse 21 = .ok (.ifCond .lt 11, 3) := by decide +kernel
theorem dX11_glimpse_24 : decode cX11_glimpse 24 = .ok (.iload_n 2, 1) := by decide +kernel
theorem dX11_glimpse_25 : decode cX11_glimpse 25 = .ok (.aload_n 3, 1) := by decide +kernel
theorem dX11_glimpse_26 : decode cX11_glimpse 26 = .ok (.getfield 131, 3) := by decide +kernel
theorem dX11_glimpse_29 : decode cX11_glimpse 29 = .ok (.if_icmp .lt 6, 3) := by decide +kernel
theorem dX11_glimpse_32 : decode cX11_glimpse 32 = .ok (.bipush (-3), 2) := by decide +kernel
theorem dX11_glimpse_34 : decode cX11_glimpse 34 = .ok (.ireturn, 1) := by decide +kernel
theorem dX11_glimpse_35 : decode cX11_glimpse 35 = .ok (.aload_n 3, 1) := by decide +kernel
theorem dX11_glimpse_36 : decode cX11_glimpse 36 = .ok (.iload_n 2, 1) := by decide +kernel
theorem dX11_glimpse_37 : decode cX11_glimpse 37 = .ok (.invokevirtual 146, 3) := by decide +kernel
theorem dX11_glimpse_40 : decode cX11_glimpse 40 = .ok (.ireturn, 1) := by decide +kernel
set_option maxRecDepth 20000 in
theorem ggX11_hang_X11_isPane : GoodIn wsX11_hang wsX11_isPane := goodIn_r _ [8, 1, 9, 19, 20, 21, 22, 23, 24, 25, 26, 27, 28, 29, 30, 31, 32, 33, 34, 35, 36] (by decide +kernel) (by decide +kernel)
set_option maxRecDepth 20000 in
theorem gX11_hang_X11_isPane : GoodIn wsX11_hang (wsV RX11 121 RX11 yX11_isPane wsX11_isPane) := goodIn_app (goodIn_of _ (by decide +kernel)) ggX11_hang_X11_isPane
set_option maxRecDepth 20000 in
theorem ggX11_hang_X11_isPlace : GoodIn wsX11_hang wsX11_isPlace := goodIn_r _ [12] (by decide +kernel) (by decide +kernel)
set_option maxRecDepth 20000 in
theorem gX11_hang_X11_isPlace : GoodIn wsX11_hang (va_wsS RX11 87 yX11_isPlace wsX11_isPlace) := goodIn_app (goodIn_of _ (by decide +kernel)) ggX11_hang_X11_isPlace
set_option maxRecDepth 20000 in
theorem ggX11_hang_X3_placeTold : GoodIn wsX11_hang wsX3_placeTold := goodIn_r _ [17, 18, 37, 38, 39, 40, 41] (by decide +kernel) (by decide +kernel)
set_option maxRecDepth 20000 in
theorem gX11_hang_X3_placeTold : GoodIn wsX11_hang (wsV RX11 132 RX3 yX3_placeTold wsX3_placeTold) := goodIn_app (goodIn_of _ (by decide +kernel)) ggX11_hang_X3_placeTold
theorem dX11_hang_0 : decode cX11_hang 0 = .ok (.aload_n 0, 1) := by decide +kernel
theorem dX11_hang_1 : decode cX11_hang 1 = .ok (.iload_n 1, 1) := by decide +kernel
theorem dX11_hang_2 : decode cX11_hang 2 = .ok (.invokevirtual 121, 3) := by decide +kernel
theorem dX11_hang_5 : decode cX11_hang 5 = .ok (.ifCond .eq 15, 3) := by decide +kernel
theorem dX11_hang_8 : decode cX11_hang 8 = .ok (.iload_n 2, 1) := by decide +kernel
theorem dX11_hang_9 : decode cX11_hang 9 = .ok (.invokestatic 87, 3) := by decide +kernel
theorem dX11_hang_12 : decode cX11_hang 12 = .ok (.ifCond .ne 10, 3) := by decide +kernel
theorem dX11_hang_15 : decode cX11_hang 15 = .ok (.iload_n 2, 1) := by decide +kernel
theorem dX11_hang_16 : decode cX11_hang 16 = .ok (.iconst 4, 1) := by decide +kernel
theorem dX11_hang_17 : decode cX11_hang 17 = .ok (.if_icmp .eq 5, 3) := by decide +kernel
theorem dX11_hang_20 : decode cX11_hang 20 = .ok (.iconst (-1), 1) := by decide +kernel
theorem dX11_hang_21 : decode cX11_hang 21 = .ok (.ireturn, 1) := by decide +kernel
theorem dX11_hang_22 : decode cX11_hang 22 = .ok (.aload_n 0, 1) := by decide +kernel
theorem dX11_hang_23 : decode cX11_hang 23 = .ok (.getfield 53, 3) := by decide +kernel
theorem dX11_hang_26 : decode cX11_hang 26 = .ok (.getfield 124, 3) := by decide +kernel
theorem dX11_hang_29 : decode cX11_hang 29 = .ok (.iload_n 1, 1) := by decide +kernel
theorem dX11_hang_30 : decode cX11_hang 30 = .ok (.aaload, 1) := by decide +kernel
theorem dX11_hang_31 : decode cX11_hang 31 = .ok (.astore_n 3, 1) := by decide +kernel
theorem dX11_hang_32 : decode cX11_hang 32 = .ok (.aload_n 3, 1) := by decide +kernel
theorem dX11_hang_33 : decode cX11_hang 33 = .ok (.invokevirtual 132, 3) := by decide +kernel
theorem dX11_hang_36 : decode cX11_hang 36 = .ok (.istore 4, 2) := by decide +kernel
theorem dX11_hang_38 : decode cX11_hang 38 = .ok (.aload_n 3, 1) := by decide +kernel
theorem dX11_hang_39 : decode cX11_hang 39 = .ok (.iload_n 2, 1) := by decide +kernel
theorem dX11_hang_40 : decode cX11_hang 40 = .ok (.putfield 150, 3) := by decide +kernel
theorem dX11_hang_43 : decode cX11_hang 43 = .ok (.iload 4, 2) := by decide +kernel
theorem dX11_hang_45 : decode cX11_hang 45 = .ok (.ireturn, 1) := by decide +kernel
set_option maxRecDepth 20000 in
theorem ggX11_cast_X11_isPane : GoodIn wsX11_cast wsX11_isPane := goodIn_r _ [8, 1, 9, 13, 14, 15, 16, 17, 18, 19, 20, 21, 22, 23, 24, 25, 26, 27, 28, 29, 30] (by decide +kernel) (by decide +kernel)
set_option maxRecDepth 20000 in
theorem gX11_cast_X11_isPane : GoodIn wsX11_cast (wsV RX11 121 RX11 yX11_isPane wsX11_isPane) := goodIn_app (goodIn_of _ (by decide +kernel)) ggX11_cast_X11_isPane
set_option maxRecDepth 20000 in
theorem ggX11_cast_X11_isKind : GoodIn wsX11_cast wsX11_isKind := goodIn_r _ [12] (by decide +kernel) (by decide +kernel)
set_option maxRecDepth 20000 in
theorem gX11_cast_X11_isKind : GoodIn wsX11_cast (va_wsS RX11 110 yX11_isKind wsX11_isKind) := goodIn_app (goodIn_of _ (by decide +kernel)) ggX11_cast_X11_isKind
theorem dX11_cast_0 : decode cX11_cast 0 = .ok (.aload_n 0, 1) := by decide +kernel
theorem dX11_cast_1 : decode cX11_cast 1 = .ok (.iload_n 1, 1) := by decide +kernel
theorem dX11_cast_2 : decode cX11_cast 2 = .ok (.invokevirtual 121, 3) := by decide +kernel
theorem dX11_cast_5 : decode cX11_cast 5 = .ok (.ifCond .eq 10, 3) := by decide +kernel
theorem dX11_cast_8 : decode cX11_cast 8 = .ok (.iload_n 2, 1) := by decide +kernel
theorem dX11_cast_9 : decode cX11_cast 9 = .ok (.invokestatic 110, 3) := by decide +kernel
theorem dX11_cast_12 : decode cX11_cast 12 = .ok (.ifCond .ne 5, 3) := by decide +kernel
theorem dX11_cast_15 : decode cX11_cast 15 = .ok (.iconst (-1), 1) := by decide +kernel
theorem dX11_cast_16 : decode cX11_cast 16 = .ok (.ireturn, 1) := by decide +kernel
theorem dX11_cast_17 : decode cX11_cast 17 = .ok (.aload_n 0, 1) := by decide +kernel
theorem dX11_cast_18 : decode cX11_cast 18 = .ok (.getfield 53, 3) := by decide +kernel
theorem dX11_cast_21 : decode cX11_cast 21 = .ok (.getfield 124, 3) := by decide +kernel
theorem dX11_cast_24 : decode cX11_cast 24 = .ok (.iload_n 1, 1) := by decide +kernel
theorem dX11_cast_25 : decode cX11_cast 25 = .ok (.aaload, 1) := by decide +kernel
theorem dX11_cast_26 : decode cX11_cast 26 = .ok (.astore_n 3, 1) := by decide +kernel
theorem dX11_cast_27 : decode cX11_cast 27 = .ok (.aload_n 3, 1) := by decide +kernel
theorem dX11_cast_28 : decode cX11_cast 28 = .ok (.getfield 128, 3) := by decide +kernel
theorem dX11_cast_31 : decode cX11_cast 31 = .ok (.istore 4, 2) := by decide +kernel
theorem dX11_cast_33 : decode cX11_cast 33 = .ok (.aload_n 3, 1) := by decide +kernel
theorem dX11_cast_34 : decode cX11_cast 34 = .ok (.iload_n 2, 1) := by decide +kernel
theorem dX11_cast_35 : decode cX11_cast 35 = .ok (.putfield 128, 3) := by decide +kernel
theorem dX11_cast_38 : decode cX11_cast 38 = .ok (.iload 4, 2) := by decide +kernel
theorem dX11_cast_40 : decode cX11_cast 40 = .ok (.ireturn, 1) := by decide +kernel
theorem dX11_today_0 : decode cX11_today 0 = .ok (.aload_n 0, 1) := by decide +kernel
theorem dX11_today_1 : decode cX11_today 1 = .ok (.getfield 53, 3) := by decide +kernel
