/-! THE LAW'S LOOP. -/
def AllSteps (Rel : List Nat → St → St → Prop) : Prop := step_feed Rel ∧ step_quarry Rel ∧ step_view Rel ∧ step_viewOf Rel ∧ step_love Rel ∧ step_pane Rel ∧ step_paneOf Rel ∧ step_glimpse Rel ∧ step_hang Rel ∧ step_cast Rel ∧ step_today Rel ∧ step_days Rel ∧ step_turn Rel ∧ step_cut Rel ∧ step_lay Rel ∧ step_drop Rel ∧ step_dark Rel ∧ step_seen Rel ∧ step_worth Rel ∧ step_buy Rel ∧ step_let Rel ∧ step_best Rel ∧ step_turned Rel ∧ step_will Rel ∧ step_seed Rel ∧ step_draw Rel ∧ step_prove Rel ∧ step_row Rel ∧ step_alterRow Rel ∧ step_judge Rel ∧ step_views Rel ∧ step_sheet Rel ∧ step_put Rel ∧ step_item Rel ∧ step_shelf Rel ∧ step_taken Rel ∧ step_act Rel ∧ step_trace Rel ∧ step_many Rel ∧ step_keep Rel ∧ step_again Rel
section LO
variable {p : Program} {l : Launch} {e : Env} {s : State} {m : MethodId} {below : List Frame} {meth : Method} {c : Code}
variable {D : va_G} {kA : Nat → ClassId} {adK adV lyc lyr : Nat → Nat} {b L : Nat} {xs : Nat → Int32} {Rel : List Nat → St → St → Prop}
theorem lo_cond {i L : Nat} (hi : i ≤ L) (hL : L ≤ 384) (h : ¬ (Int32.ofNat L - nI 6) < nI i) : i + 6 ≤ L := by
  rw [Int32.lt_iff_toInt_lt, nI_toInt (by omega)] at h
  have e : (Int32.ofNat L - nI 6).toInt = (L : Int) - 6 := by
    rw [Int32.toInt_sub]
    have h1 : (Int32.ofNat L).toInt = (L : Int) := nI_toInt (n := L) (by omega)
    have h2 : (nI 6).toInt = 6 := by decide
    rw [h1, h2]
    exact Int.bmod_eq_of_le (by omega) (by omega)
  omega
set_option maxHeartbeats 4000000 in
set_option maxRecDepth 100000 in
theorem law_loop (hr : meth.sig.returnType = ret) (hlocks : meth.locks = false) (hL384 : L ≤ 384) (hC : LW p s m meth c D kA adK adV lyc lyr b L xs) (hSt : AllSteps Rel) : ∀ (fuel i : Nat) (x3 : Int32) (n : List Nat) (S T : St) (H : Heap) (locs : List Loc) (ls : Array Slot) (cells slots : Nat), L - i < fuel → i ≤ L → x3 = nI i → cells + 2 * (L - i) ≤ 500000 → slots + 42 * (L - i) ≤ 7000000 → (∀ c, c < 59 → c ∈ n) → Rel n S T → L2 D kA lyc lyr n s.heap S T H locs → lv_has ls 4 [(3, .int x3), (0, .ref b), (1, .ref (lyc 0)), (2, .ref (lyr 0))] → W p l e room_1 s m #[Value.ref b] below meth c H locs cells slots (lw_Z below #[Value.ref b] s) (F0 m 18 ls []) := by
  obtain ⟨hs_feed, hs_quarry, hs_view, hs_viewOf, hs_love, hs_pane, hs_paneOf, hs_glimpse, hs_hang, hs_cast, hs_today, hs_days, hs_turn, hs_cut, hs_lay, hs_drop, hs_dark, hs_seen, hs_worth, hs_buy, hs_let, hs_best, hs_turned, hs_will, hs_seed, hs_draw, hs_prove, hs_row, hs_alterRow, hs_judge, hs_views, hs_sheet, hs_put, hs_item, hs_shelf, hs_taken, hs_act, hs_trace, hs_many, hs_keep, hs_again⟩ := hSt
  obtain ⟨hx, hb, hml, hown, hts, hXs, hbl, hK, hN, hXs2, hly⟩ := id hC
  have hbA : ¬ (fun q : Nat => s.heap.size ≤ q) b := Nat.not_le.mpr hbl
  intro fuel
  induction fuel with
  | zero => intro i x3 n S T H locs ls cells slots h; exact absurd h (Nat.not_lt_zero _)
  | succ fuel ih =>
    intro i x3 n S T H locs ls cells slots hf hi ex3 hc1 hc2 hn hR hL hl
    refine lv_iload_n hx hb dL_law_18 rfl (lv_at hl 0 rfl) ?_
    refine lv_aload_n hx hb dL_law_19 rfl (lv_at hl 1 rfl) ?_
    refine va_slen hx hb hXs hbl hbA hL.2.2.2.2.2 dL_law_20 ?_
    refine lv_bipush (v := 6) hx hb dL_law_21 (by decide +kernel) ?_
    refine lv_isub hx hb dL_law_23 ?_
    refine lv_icmp_gt (tgt := 1601) hx hb dL_law_24 (by decide) (fun hc => ?_) (fun hc => ?_)
    · refine lv_iconst (v := 1) hx hb dL_law_1601 (by decide +kernel) ?_
      refine W.widen (k := 600000) (n := 7302250) (by omega) (by omega) ?_
      refine va_forget hL.2.2.2.2.2.2.2 ?_
      exact lw_ret hx hb hr hlocks dL_law_1602
    · have hi6 : i + 6 ≤ L := lo_cond hi hL384 (by rw [ex3] at hc; exact hc)
      have h5 : ∀ k : Int32, 1 ≤ k → k ≤ 5 → vp_in (x3 + k) L := by
        intro k hk1 hk5
        obtain ⟨j, hj, rfl⟩ := nI_of (x := k) (by rw [Int32.lt_iff_toInt_lt]; rw [Int32.le_iff_toInt_le] at hk1; have : (1 : Int32).toInt = 1 := by decide
                                                  have : (0 : Int32).toInt = 0 := by decide
                                                  omega)
        have hj5 : j ≤ 5 := by
          rw [Int32.le_iff_toInt_le, nI_toInt hj] at hk5
          have : (5 : Int32).toInt = 5 := by decide
          omega
        rw [ex3, nI_add]
        exact vp_in_nI (by omega) (by omega)
      have h0 : vp_in x3 L := by rw [ex3]; exact vp_in_nI (by omega) (by omega)
      have next : ∀ (n1 : List Nat) (S1 T1 : St) (H1 : Heap) (locs1 : List Loc) (ls1 : Array Slot), (∀ c, c < 59 → c ∈ n1) → Rel n1 S1 T1 → L2 D kA lyc lyr n1 s.heap S1 T1 H1 locs1 → lv_has ls1 4 [(3, .int x3), (0, .ref b), (1, .ref (lyc 0)), (2, .ref (lyr 0))] → W p l e room_1 s m #[Value.ref b] below meth c H1 locs1 (cells + 2) (slots + 42) (lw_Z below #[Value.ref b] s) (F0 m 1595 ls1 []) := by
        intro n1 S1 T1 H1 locs1 ls1 hn1 hR1 hL1 hl1
        obtain ⟨y3, ey3⟩ : ∃ y : Int32, y = x3 + 6 := ⟨_, rfl⟩
        refine lv_iinc (v := y3) (lv' := [(3, .int y3), (0, .ref b), (1, .ref (lyc 0)), (2, .ref (lyr 0))]) hx hb dL_law_1595 hl1 (k := 0) rfl (by rw [ey3]; rfl) (by decide) rfl (fun ls hl => ?_)
        refine lv_goto (tgt := 18) hx hb dL_law_1598 (by decide) ?_
        exact ih (i + 6) y3 n1 S1 T1 H1 locs1 ls _ _ (by omega) (by omega) (by rw [ey3, ex3]; exact nI_add i 6) (by omega) (by omega) hn1 hR1 hL1 hl
      have hk1 : cells + 2 ≤ 600000 := by omega
      have hk2 : slots + 42 ≤ 7302250 := by omega
      refine lv_aload_n hx hb dL_law_27 rfl (lv_at hl 1 rfl) ?_
      refine lv_iload_n hx hb dL_law_28 rfl (lv_at hl 0 rfl) ?_
      refine va_sld hx hb hXs hbl hbA hL.2.2.2.2.2 h0 dL_law_29 ?_
      refine lv_bipush (v := 63) hx hb dL_law_30 (by decide +kernel) ?_
      refine lv_iand hx hb dL_law_32 ?_
      generalize (xs x3.toNatClampNeg &&& (63 : Int32)) = v
      by_cases hv0 : v = 0
      · refine lv_tableIn (tgt := 212) hx hb dL_law_33 (by rw [hv0]; decide) (by rw [hv0]; decide) (by rw [hv0]; rfl) (by decide) ?_
        exact lc_feed hC hk1 hk2 h5 hs_feed hn hR hL hl next
      by_cases hv1 : v = 1
      · refine lv_tableIn (tgt := 275) hx hb dL_law_33 (by rw [hv1]; decide) (by rw [hv1]; decide) (by rw [hv1]; rfl) (by decide) ?_
        exact lc_quarry hC hk1 hk2 h5 hs_quarry hn hR hL hl next
      by_cases hv2 : v = 2
      · refine lv_tableIn (tgt := 288) hx hb dL_law_33 (by rw [hv2]; decide) (by rw [hv2]; decide) (by rw [hv2]; rfl) (by decide) ?_
        exact lc_view hC hk1 hk2 h5 hs_view hn hR hL hl next
      by_cases hv3 : v = 3
      · refine lv_tableIn (tgt := 331) hx hb dL_law_33 (by rw [hv3]; decide) (by rw [hv3]; decide) (by rw [hv3]; rfl) (by decide) ?_
        exact lc_viewOf hC hk1 hk2 h5 hs_viewOf hn hR hL hl next
      by_cases hv4 : v = 4
      · refine lv_tableIn (tgt := 364) hx hb dL_law_33 (by rw [hv4]; decide) (by rw [hv4]; decide) (by rw [hv4]; rfl) (by decide) ?_
        exact lc_love hC hk1 hk2 h5 hs_love hn hR hL hl next
      by_cases hv5 : v = 5
      · refine lv_tableIn (tgt := 407) hx hb dL_law_33 (by rw [hv5]; decide) (by rw [hv5]; decide) (by rw [hv5]; rfl) (by decide) ?_
        exact lc_pane hC hk1 hk2 h5 hs_pane hn hR hL hl next
      by_cases hv6 : v = 6
      · refine lv_tableIn (tgt := 440) hx hb dL_law_33 (by rw [hv6]; decide) (by rw [hv6]; decide) (by rw [hv6]; rfl) (by decide) ?_
        exact lc_paneOf hC hk1 hk2 h5 hs_paneOf hn hR hL hl next
      by_cases hv7 : v = 7
      · refine lv_tableIn (tgt := 473) hx hb dL_law_33 (by rw [hv7]; decide) (by rw [hv7]; decide) (by rw [hv7]; rfl) (by decide) ?_
        exact lc_glimpse hC hk1 hk2 h5 hs_glimpse hn hR hL hl next
      by_cases hv8 : v = 8
      · refine lv_tableIn (tgt := 506) hx hb dL_law_33 (by rw [hv8]; decide) (by rw [hv8]; decide) (by rw [hv8]; rfl) (by decide) ?_
        exact lc_hang hC hk1 hk2 h5 hs_hang hn hR hL hl next
      by_cases hv9 : v = 9
      · refine lv_tableIn (tgt := 539) hx hb dL_law_33 (by rw [hv9]; decide) (by rw [hv9]; decide) (by rw [hv9]; rfl) (by decide) ?_
        exact lc_cast hC hk1 hk2 h5 hs_cast hn hR hL hl next
      by_cases hv10 : v = 10
      · refine lv_tableIn (tgt := 572) hx hb dL_law_33 (by rw [hv10]; decide) (by rw [hv10]; decide) (by rw [hv10]; rfl) (by decide) ?_
        exact lc_today hC hk1 hk2 h5 hs_today hn hR hL hl next
      by_cases hv11 : v = 11
      · refine lv_tableIn (tgt := 585) hx hb dL_law_33 (by rw [hv11]; decide) (by rw [hv11]; decide) (by rw [hv11]; rfl) (by decide) ?_
        exact lc_days hC hk1 hk2 h5 hs_days hn hR hL hl next
      by_cases hv12 : v = 12
      · refine lv_tableIn (tgt := 608) hx hb dL_law_33 (by rw [hv12]; decide) (by rw [hv12]; decide) (by rw [hv12]; rfl) (by decide) ?_
        exact lc_turn hC hk1 hk2 h5 hs_turn hn hR hL hl next
      by_cases hv13 : v = 13
      · refine lv_tableIn (tgt := 631) hx hb dL_law_33 (by rw [hv13]; decide) (by rw [hv13]; decide) (by rw [hv13]; rfl) (by decide) ?_
        exact lc_cut hC hk1 hk2 h5 hs_cut hn hR hL hl next
      by_cases hv14 : v = 14
      · refine lv_tableIn (tgt := 664) hx hb dL_law_33 (by rw [hv14]; decide) (by rw [hv14]; decide) (by rw [hv14]; rfl) (by decide) ?_
        exact lc_lay hC hk1 hk2 h5 hs_lay hn hR hL hl next
      by_cases hv15 : v = 15
      · refine lv_tableIn (tgt := 697) hx hb dL_law_33 (by rw [hv15]; decide) (by rw [hv15]; decide) (by rw [hv15]; rfl) (by decide) ?_
        exact lc_drop hC hk1 hk2 h5 hs_drop hn hR hL hl next
      by_cases hv16 : v = 16
      · refine lv_tableIn (tgt := 720) hx hb dL_law_33 (by rw [hv16]; decide) (by rw [hv16]; decide) (by rw [hv16]; rfl) (by decide) ?_
        exact lc_dark hC hk1 hk2 h5 hs_dark hn hR hL hl next
      by_cases hv17 : v = 17
      · refine lv_tableIn (tgt := 743) hx hb dL_law_33 (by rw [hv17]; decide) (by rw [hv17]; decide) (by rw [hv17]; rfl) (by decide) ?_
        exact lc_seen hC hk1 hk2 h5 hs_seen hn hR hL hl next
      by_cases hv18 : v = 18
      · refine lv_tableIn (tgt := 786) hx hb dL_law_33 (by rw [hv18]; decide) (by rw [hv18]; decide) (by rw [hv18]; rfl) (by decide) ?_
        exact lc_worth hC hk1 hk2 h5 hs_worth hn hR hL hl next
      by_cases hv19 : v = 19
      · refine lv_tableIn (tgt := 829) hx hb dL_law_33 (by rw [hv19]; decide) (by rw [hv19]; decide) (by rw [hv19]; rfl) (by decide) ?_
        exact lc_buy hC hk1 hk2 h5 hs_buy hn hR hL hl next
      by_cases hv20 : v = 20
      · refine lv_tableIn (tgt := 862) hx hb dL_law_33 (by rw [hv20]; decide) (by rw [hv20]; decide) (by rw [hv20]; rfl) (by decide) ?_
        exact lc_let hC hk1 hk2 h5 hs_let hn hR hL hl next
      by_cases hv21 : v = 21
      · refine lv_tableIn (tgt := 905) hx hb dL_law_33 (by rw [hv21]; decide) (by rw [hv21]; decide) (by rw [hv21]; rfl) (by decide) ?_
        exact lc_best hC hk1 hk2 h5 hs_best hn hR hL hl next
      by_cases hv22 : v = 22
      · refine lv_tableIn (tgt := 948) hx hb dL_law_33 (by rw [hv22]; decide) (by rw [hv22]; decide) (by rw [hv22]; rfl) (by decide) ?_
        exact lc_turned hC hk1 hk2 h5 hs_turned hn hR hL hl next
      by_cases hv23 : v = 23
      · refine lv_tableIn (tgt := 991) hx hb dL_law_33 (by rw [hv23]; decide) (by rw [hv23]; decide) (by rw [hv23]; rfl) (by decide) ?_
        exact lc_will hC hk1 hk2 h5 hs_will hn hR hL hl next
      by_cases hv24 : v = 24
      · refine lv_tableIn (tgt := 1024) hx hb dL_law_33 (by rw [hv24]; decide) (by rw [hv24]; decide) (by rw [hv24]; rfl) (by decide) ?_
        exact lc_seed hC hk1 hk2 h5 hs_seed hn hR hL hl next
      by_cases hv25 : v = 25
      · refine lv_tableIn (tgt := 1047) hx hb dL_law_33 (by rw [hv25]; decide) (by rw [hv25]; decide) (by rw [hv25]; rfl) (by decide) ?_
        exact lc_draw hC hk1 hk2 h5 hs_draw hn hR hL hl next
      by_cases hv26 : v = 26
      · refine lv_tableIn (tgt := 1080) hx hb dL_law_33 (by rw [hv26]; decide) (by rw [hv26]; decide) (by rw [hv26]; rfl) (by decide) ?_
        exact lc_prove hC hk1 hk2 h5 hs_prove hn hR hL hl next
      by_cases hv27 : v = 27
      · refine lv_tableIn (tgt := 1113) hx hb dL_law_33 (by rw [hv27]; decide) (by rw [hv27]; decide) (by rw [hv27]; rfl) (by decide) ?_
        exact lc_row hC hk1 hk2 h5 hs_row hn hR hL hl next
      by_cases hv28 : v = 28
      · refine lv_tableIn (tgt := 1146) hx hb dL_law_33 (by rw [hv28]; decide) (by rw [hv28]; decide) (by rw [hv28]; rfl) (by decide) ?_
        exact lc_alterRow hC hk1 hk2 h5 hs_alterRow hn hR hL hl next
      by_cases hv29 : v = 29
      · refine lv_tableIn (tgt := 1189) hx hb dL_law_33 (by rw [hv29]; decide) (by rw [hv29]; decide) (by rw [hv29]; rfl) (by decide) ?_
        exact lc_judge hC hk1 hk2 h5 hs_judge hn hR hL hl next
      by_cases hv30 : v = 30
      · refine lv_tableIn (tgt := 1212) hx hb dL_law_33 (by rw [hv30]; decide) (by rw [hv30]; decide) (by rw [hv30]; rfl) (by decide) ?_
        exact lc_views hC hk1 hk2 h5 hs_views hn hR hL hl next
      by_cases hv31 : v = 31
      · refine lv_tableIn (tgt := 1275) hx hb dL_law_33 (by rw [hv31]; decide) (by rw [hv31]; decide) (by rw [hv31]; rfl) (by decide) ?_
        exact lc_sheet hC hk1 hk2 h5 hs_sheet hn hR hL hl next
      by_cases hv32 : v = 32
      · refine lv_tableIn (tgt := 1318) hx hb dL_law_33 (by rw [hv32]; decide) (by rw [hv32]; decide) (by rw [hv32]; rfl) (by decide) ?_
        exact lc_put hC hk1 hk2 h5 hs_put hn hR hL hl next
      by_cases hv33 : v = 33
      · refine lv_tableIn (tgt := 1361) hx hb dL_law_33 (by rw [hv33]; decide) (by rw [hv33]; decide) (by rw [hv33]; rfl) (by decide) ?_
        exact lc_item hC hk1 hk2 h5 hs_item hn hR hL hl next
      by_cases hv34 : v = 34
      · refine lv_tableIn (tgt := 1404) hx hb dL_law_33 (by rw [hv34]; decide) (by rw [hv34]; decide) (by rw [hv34]; rfl) (by decide) ?_
        exact lc_shelf hC hk1 hk2 h5 hs_shelf hn hR hL hl next
      by_cases hv35 : v = 35
      · refine lv_tableIn (tgt := 1447) hx hb dL_law_33 (by rw [hv35]; decide) (by rw [hv35]; decide) (by rw [hv35]; rfl) (by decide) ?_
        exact lc_taken hC hk1 hk2 h5 hs_taken hn hR hL hl next
      by_cases hv36 : v = 36
      · refine lv_tableIn (tgt := 1480) hx hb dL_law_33 (by rw [hv36]; decide) (by rw [hv36]; decide) (by rw [hv36]; rfl) (by decide) ?_
        exact lc_act hC hk1 hk2 h5 hs_act hn hR hL hl next
      by_cases hv37 : v = 37
      · refine lv_tableIn (tgt := 1523) hx hb dL_law_33 (by rw [hv37]; decide) (by rw [hv37]; decide) (by rw [hv37]; rfl) (by decide) ?_
        exact lc_trace hC hk1 hk2 h5 hs_trace hn hR hL hl next
      by_cases hv38 : v = 38
      · refine lv_tableIn (tgt := 1546) hx hb dL_law_33 (by rw [hv38]; decide) (by rw [hv38]; decide) (by rw [hv38]; rfl) (by decide) ?_
        exact lc_many hC hk1 hk2 h5 hs_many hn hR hL hl next
      by_cases hv39 : v = 39
      · refine lv_tableIn (tgt := 1569) hx hb dL_law_33 (by rw [hv39]; decide) (by rw [hv39]; decide) (by rw [hv39]; rfl) (by decide) ?_
        exact lc_keep hC hk1 hk2 h5 hs_keep hn hR hL hl next
      by_cases hv40 : v = 40
      · refine lv_tableIn (tgt := 1582) hx hb dL_law_33 (by rw [hv40]; decide) (by rw [hv40]; decide) (by rw [hv40]; rfl) (by decide) ?_
        exact lc_again hC hk1 hk2 h5 hs_again hn hR hL hl next
      refine lv_tableOut (tgt := 1595) hx hb dL_law_33 ?_ (by decide) ?_
      · have g0 : v.toInt ≠ 0 := tb_ne hv0
        have g1 : v.toInt ≠ 1 := tb_ne hv1
        have g2 : v.toInt ≠ 2 := tb_ne hv2
        have g3 : v.toInt ≠ 3 := tb_ne hv3
        have g4 : v.toInt ≠ 4 := tb_ne hv4
        have g5 : v.toInt ≠ 5 := tb_ne hv5
        have g6 : v.toInt ≠ 6 := tb_ne hv6
        have g7 : v.toInt ≠ 7 := tb_ne hv7
        have g8 : v.toInt ≠ 8 := tb_ne hv8
        have g9 : v.toInt ≠ 9 := tb_ne hv9
        have g10 : v.toInt ≠ 10 := tb_ne hv10
        have g11 : v.toInt ≠ 11 := tb_ne hv11
        have g12 : v.toInt ≠ 12 := tb_ne hv12
        have g13 : v.toInt ≠ 13 := tb_ne hv13
        have g14 : v.toInt ≠ 14 := tb_ne hv14
        have g15 : v.toInt ≠ 15 := tb_ne hv15
        have g16 : v.toInt ≠ 16 := tb_ne hv16
        have g17 : v.toInt ≠ 17 := tb_ne hv17
        have g18 : v.toInt ≠ 18 := tb_ne hv18
        have g19 : v.toInt ≠ 19 := tb_ne hv19
        have g20 : v.toInt ≠ 20 := tb_ne hv20
        have g21 : v.toInt ≠ 21 := tb_ne hv21
        have g22 : v.toInt ≠ 22 := tb_ne hv22
        have g23 : v.toInt ≠ 23 := tb_ne hv23
        have g24 : v.toInt ≠ 24 := tb_ne hv24
        have g25 : v.toInt ≠ 25 := tb_ne hv25
        have g26 : v.toInt ≠ 26 := tb_ne hv26
        have g27 : v.toInt ≠ 27 := tb_ne hv27
        have g28 : v.toInt ≠ 28 := tb_ne hv28
        have g29 : v.toInt ≠ 29 := tb_ne hv29
        have g30 : v.toInt ≠ 30 := tb_ne hv30
        have g31 : v.toInt ≠ 31 := tb_ne hv31
        have g32 : v.toInt ≠ 32 := tb_ne hv32
        have g33 : v.toInt ≠ 33 := tb_ne hv33
        have g34 : v.toInt ≠ 34 := tb_ne hv34
        have g35 : v.toInt ≠ 35 := tb_ne hv35
        have g36 : v.toInt ≠ 36 := tb_ne hv36
        have g37 : v.toInt ≠ 37 := tb_ne hv37
        have g38 : v.toInt ≠ 38 := tb_ne hv38
        have g39 : v.toInt ≠ 39 := tb_ne hv39
        have g40 : v.toInt ≠ 40 := tb_ne hv40
        omega
      · exact W.widen (k := cells + 2) (n := slots + 42) (by omega) (by omega) (next n S T H locs ls hn hR hL hl)
end LO
