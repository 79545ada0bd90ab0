def wp_X11_thingOf (n : List Nat) (a1 : Int32) (S : St) (Q : List Nat → Nat → St → Prop) : Prop := (∀ o1 : Nat, o1 = (gN S 0 8) → isW o1 ∧ (vp_in a1 6 ∧ ∀ o3 : Nat, o3 = gN S (o1 + 3) a1.toNatClampNeg → isPn o3 ∧ (∀ t4 : Int32, t4 = (gI S o3 3) → (vp_in a1 6 ∧ ∀ o6 : Nat, o6 = gN S (o1 + 3) a1.toNatClampNeg → isPn o6 ∧ (((gI S o6 2) = 1 → (∀ q8 : Nat, (∀ c ∈ n, c ≠ 59 + q8) → Q (n ++ [59 + q8]) (59 + q8) (sTh S (59 + q8) 7 a1 t4))) ∧ (¬ (gI S o6 2) = 1 → (((gI S o6 2) = 2 → (∀ q10 : Nat, (∀ c ∈ n, c ≠ 59 + q10) → Q (n ++ [59 + q10]) (59 + q10) (sTh S (59 + q10) 1 a1 t4))) ∧ (¬ (gI S o6 2) = 2 → (((gI S o6 2) = 3 → (∀ q12 : Nat, (∀ c ∈ n, c ≠ 59 + q12) → Q (n ++ [59 + q12]) (59 + q12) (sTh S (59 + q12) 0 a1 t4))) ∧ (¬ (gI S o6 2) = 3 → (((gI S o6 2) = 4 → (∀ q14 : Nat, (∀ c ∈ n, c ≠ 59 + q14) → Q (n ++ [59 + q14]) (59 + q14) (sTh S (59 + q14) 5 a1 t4))) ∧ (¬ (gI S o6 2) = 4 → (((gI S o6 2) = 5 → (∀ q16 : Nat, (∀ c ∈ n, c ≠ 59 + q16) → Q (n ++ [59 + q16]) (59 + q16) (sTh S (59 + q16) 2 a1 t4))) ∧ (¬ (gI S o6 2) = 5 → (∀ q17 : Nat, (∀ c ∈ n, c ≠ 59 + q17) → Q (n ++ [59 + q17]) (59 + q17) (sTh S (59 + q17) 8 a1 t4))))))))))))))))
set_option maxHeartbeats 4000000 in
set_option maxRecDepth 100000 in
theorem c_X11_thingOf (l : Launch) (D : va_G) (kA : Nat → ClassId) (ly : Nat → Nat) (hly : ∀ q, ly (59 + q) = q) (n : List Nat) (hn : ∀ c, c < 59 → c ∈ n) (A : Nat → Prop) (a1 : Int32) : CrG l yX11_thingOf wsX11_thingOf 4 89 1 3 D (Ec kA ly) ly kA n A [.ref (ly 0), .int a1] (wp_X11_thingOf n a1) := by
  intro S Q
  refine Met.ofW (cc := cX11_thingOf) (maxL := 3) (ret := (some (.object "SlowPanes$Thing"))) (by decide) rfl ?_
  intro p e s m args below meth c s₁ B hml hv
  obtain ⟨rfl, ⟨⟨hP, hD, hK, hN⟩, hA⟩, hw⟩ := hv
  have hx := B.exec
  have hb := B.bytes
  have hr := B.returns
  have hsub : ∀ c ∈ n, c ∈ n := fun _ h => h
  have hts := atoms_spec (ws := wsX11_thingOf) B.pre
  have hown : s.vm.findClass RX11 = some m.cls := findClass_of_methodNamed B.named
  have hlocks := B.notSynchronized
  have hH : Hp D (Ec kA ly) ly n A s.heap S s.heap [] := ⟨hP, hD, va_S.rf⟩
  have hiX11 : ∀ w ∈ u_ws RX11 TX11 12, w ∈ wsX11_thingOf := by decide +kernel
  have hiX10 : ∀ w ∈ u_ws RX10 TX10 6, w ∈ wsX11_thingOf := by decide +kernel
  have hiX3 : ∀ w ∈ u_ws RX3 TX3 5, w ∈ wsX11_thingOf := by decide +kernel
  have hiX7 : ∀ w ∈ u_ws RX7 TX7 3, w ∈ wsX11_thingOf := by decide +kernel
  have hiX1 : ∀ w ∈ u_ws RX1 TX1 3, w ∈ wsX11_thingOf := by decide +kernel
  have hiX0 : ∀ w ∈ u_ws RX0 TX0 3, w ∈ wsX11_thingOf := by decide +kernel
  have hiX5 : ∀ w ∈ u_ws RX5 TX5 3, w ∈ wsX11_thingOf := by decide +kernel
  have hiX2 : ∀ w ∈ u_ws RX2 TX2 3, w ∈ wsX11_thingOf := by decide +kernel
  have hiX8 : ∀ w ∈ u_ws RX8 TX8 3, w ∈ wsX11_thingOf := by decide +kernel
  have lk0 := hts (.fieldLink RX11 53 "SlowPanes" "world" "LSlowPanes$World;") (by decide +kernel)
  have lk1 := hts (.fieldLink RX11 124 "SlowPanes$World" "panes" "[LSlowPanes$Pane;") (by decide +kernel)
  have lk2 := hts (.fieldLink RX11 131 "SlowPanes$Pane" "count" "I") (by decide +kernel)
  have lk3 := hts (.fieldLink RX11 128 "SlowPanes$Pane" "kind" "I") (by decide +kernel)
  have lk4 := hts (.classLink RX11 282 RX7) (by decide +kernel)
  have lk5 := hts (.instantiable RX7 3) (by decide +kernel)
  have lk6 := hts (.initialized RX7) (by decide +kernel)
  have lk7 := hts (.fieldLink RX11 42 "SlowPanes" "trace" "LSlowPanes$Trace;") (by decide +kernel)
  have lk8 := hts (.methodLink RX11 284 yX7_init) (by decide +kernel)
  have lk9 := hts (.instanceMethod yX7_init) (by decide +kernel)
  have lk10 := hts (.classLink RX11 287 RX1) (by decide +kernel)
  have lk11 := hts (.instantiable RX1 3) (by decide +kernel)
  have lk12 := hts (.initialized RX1) (by decide +kernel)
  have lk13 := hts (.methodLink RX11 289 yX1_init) (by decide +kernel)
  have lk14 := hts (.instanceMethod yX1_init) (by decide +kernel)
  have lk15 := hts (.classLink RX11 290 RX0) (by decide +kernel)
  have lk16 := hts (.instantiable RX0 3) (by decide +kernel)
  have lk17 := hts (.initialized RX0) (by decide +kernel)
  have lk18 := hts (.methodLink RX11 292 yX0_init) (by decide +kernel)
  have lk19 := hts (.instanceMethod yX0_init) (by decide +kernel)
  have lk20 := hts (.classLink RX11 293 RX5) (by decide +kernel)
  have lk21 := hts (.instantiable RX5 3) (by decide +kernel)
  have lk22 := hts (.initialized RX5) (by decide +kernel)
  have lk23 := hts (.methodLink RX11 295 yX5_init) (by decide +kernel)
  have lk24 := hts (.instanceMethod yX5_init) (by decide +kernel)
  have lk25 := hts (.classLink RX11 296 RX2) (by decide +kernel)
  have lk26 := hts (.instantiable RX2 3) (by decide +kernel)
  have lk27 := hts (.initialized RX2) (by decide +kernel)
  have lk28 := hts (.methodLink RX11 298 yX2_init) (by decide +kernel)
  have lk29 := hts (.instanceMethod yX2_init) (by decide +kernel)
  have lk30 := hts (.classLink RX11 256 RX8) (by decide +kernel)
  have lk31 := hts (.instantiable RX8 3) (by decide +kernel)
  have lk32 := hts (.initialized RX8) (by decide +kernel)
  have lk33 := hts (.methodLink RX11 299 yX8_init) (by decide +kernel)
  have lk34 := hts (.instanceMethod yX8_init) (by decide +kernel)
  have hl := lv_entry ([.ref (ly 0), .int a1]) (n := 3) (Nat.le_of_ble_eq_true rfl)
  rw [lg_entry_eq]
  generalize (lg_sl ([.ref (ly 0), .int a1]) ++ List.replicate (3 - (lg_sl ([.ref (ly 0), .int a1])).length) Slot.unset).toArray = ls at hl ⊢
  have hl : lv_has ls 3 [(0, .ref (ly 0)), (1, .int a1)] := hl
  rw [wp_X11_thingOf] at hw
  refine lv_aload_n hx hb dX11_thingOf_0 rfl (lv_at hl 0 rfl) ?_
  refine gf_this_8 hx hb hts hiX11 hown hK hn hH lk0 dX11_thingOf_1 ?_
  obtain ⟨o1, eo1⟩ : ∃ y : Nat, y = (gN S 0 8) := ⟨_, rfl⟩
  obtain ⟨ho1, hw⟩ := hw o1 eo1
  rw [← eo1]
  refine gf_w_2 hx hb hts hiX10 hown hK hn hH ho1 lk1 dX11_thingOf_4 ?_
  refine lv_iload_n hx hb dX11_thingOf_7 rfl (lv_at hl 1 rfl) ?_
  obtain ⟨hi_2, hw⟩ := hw
  obtain ⟨o3, eo3⟩ : ∃ y : Nat, y = gN S (o1 + 3) a1.toNatClampNeg := ⟨_, rfl⟩
  obtain ⟨ho3, hw⟩ := hw o3 eo3
  refine k_ald (t0 := 1) (v := .ref (ly o3)) hx hb hK hH (w_lt hn ho1 3 (by decide)) rfl (Ec_wp ho1) hi_2 (by rw [eo3]; rfl) dX11_thingOf_8 ?_
  refine gf_pn_3 hx hb hts hiX3 hown hK hn hH ho3 lk2 dX11_thingOf_9 ?_
  refine lv_topi (fun t4 et4 => ?_)
  replace hw := hw t4 et4
  refine lv_istore_n (lv' := [(2, .int t4), (0, .ref (ly 0)), (1, .int a1)]) hx hb dX11_thingOf_12 rfl hl (by decide) rfl (fun ls hl => ?_)
  refine lv_aload_n hx hb dX11_thingOf_13 rfl (lv_at hl 1 rfl) ?_
  refine gf_this_8 hx hb hts hiX11 hown hK hn hH lk0 dX11_thingOf_14 ?_
  rw [← eo1]
  refine gf_w_2 hx hb hts hiX10 hown hK hn hH ho1 lk1 dX11_thingOf_17 ?_
  refine lv_iload_n hx hb dX11_thingOf_20 rfl (lv_at hl 2 rfl) ?_
  obtain ⟨hi_5, hw⟩ := hw
  obtain ⟨o6, eo6⟩ : ∃ y : Nat, y = gN S (o1 + 3) a1.toNatClampNeg := ⟨_, rfl⟩
  obtain ⟨ho6, hw⟩ := hw o6 eo6
  refine k_ald (t0 := 1) (v := .ref (ly o6)) hx hb hK hH (w_lt hn ho1 3 (by decide)) rfl (Ec_wp ho1) hi_5 (by rw [eo6]; rfl) dX11_thingOf_21 ?_
  refine gf_pn_2 hx hb hts hiX3 hown hK hn hH ho6 lk3 dX11_thingOf_22 ?_
  by_cases hc7 : (gI S o6 2) = 1
  · replace hw := hw.1 hc7
    refine lv_tableIn (tgt := 60) hx hb dX11_thingOf_25 (by rw [hc7]; first | done | decide) (by rw [hc7]; first | done | decide) (by rw [hc7]; first | done | rfl) (by decide) ?_
    refine k_new (ci := 7) (C := RX7) (T := TX7) (N := 3) (fs := [.int 0, .int 0, .null]) hx hb hts hiX7 tyX7 tyX7_ok hown lk4 lk5 lk6 hK hH hA rfl (fun j hj => by rcases (show j = 0 ∨ j = 1 ∨ j = 2 by omega) with rfl | rfl | rfl <;> rfl) (Nat.le_of_ble_eq_true rfl) (Nat.le_of_ble_eq_true rfl) dX11_thingOf_60 (fun q8 H hH hq hAq hap => ?_)
    refine lv_dup hx hb dX11_thingOf_63 rfl ?_
    refine lv_iload_n hx hb dX11_thingOf_64 rfl (lv_at hl 2 rfl) ?_
    refine lv_iload_n hx hb dX11_thingOf_65 rfl (lv_at hl 0 rfl) ?_
    refine lv_aload_n hx hb dX11_thingOf_66 rfl (lv_at hl 1 rfl) ?_
    refine gf_this_6 hx hb hts hiX11 hown hK hn hH lk7 dX11_thingOf_67 ?_
    refine k_initT (ci := 7) (x := a1) (y := t4) rfl (va_runI (As := [.int a1, .int t4, .ref (ly 7)]) (rest := [.ref q8]) ⟨hx, hb, hml, hown, hts⟩ (c_X7_init l D q8 a1 t4 (ly 7) H.size) (cwI 3 hts gX11_thingOf_X7_init rfl rfl rfl lk6 lk8 lk9 rfl (by decide +kernel) ⟨(Nat.le_of_ble_eq_true rfl), (Nat.le_of_ble_eq_true rfl)⟩) ⟨i_blind0, fun U hU hW => ⟨rfl, by rw [hU], by rw [hU]; exact hq, va_K.moved hW.alike (hK.sub (tys' := []) [] rfl), va_D1⟩⟩ rfl rfl hl.1 rfl (lv_room (Nat.le_of_ble_eq_true rfl)) dX11_thingOf_70 ⟨(Nat.le_of_ble_eq_true rfl), (Nat.le_of_ble_eq_true rfl)⟩) hH hA hAq hap hly (fun H locs hH => ?_)
    have hw := hw q8 (fun c hc h => hap c hc (by rw [h]; exact hly q8))
    have hr9 : Value.ref q8 = .ref (ly (59 + q8)) := by rw [hly]
    rw [hr9]
    exact g_aret hx hb hr hlocks hK hN (fun c h => List.mem_append_left _ h) hH hw dX11_thingOf_73
  · replace hw := hw.2 hc7
    by_cases hc9 : (gI S o6 2) = 2
    · replace hw := hw.1 hc9
      refine lv_tableIn (tgt := 74) hx hb dX11_thingOf_25 (by rw [hc9]; first | done | decide) (by rw [hc9]; first | done | decide) (by rw [hc9]; first | done | rfl) (by decide) ?_
      refine k_new (ci := 1) (C := RX1) (T := TX1) (N := 3) (fs := [.int 0, .int 0, .null]) hx hb hts hiX1 tyX1 tyX1_ok hown lk10 lk11 lk12 hK hH hA rfl (fun j hj => by rcases (show j = 0 ∨ j = 1 ∨ j = 2 by omega) with rfl | rfl | rfl <;> rfl) (Nat.le_of_ble_eq_true rfl) (Nat.le_of_ble_eq_true rfl) dX11_thingOf_74 (fun q10 H hH hq hAq hap => ?_)
      refine lv_dup hx hb dX11_thingOf_77 rfl ?_
      refine lv_iload_n hx hb dX11_thingOf_78 rfl (lv_at hl 2 rfl) ?_
      refine lv_iload_n hx hb dX11_thingOf_79 rfl (lv_at hl 0 rfl) ?_
      refine lv_aload_n hx hb dX11_thingOf_80 rfl (lv_at hl 1 rfl) ?_
      refine gf_this_6 hx hb hts hiX11 hown hK hn hH lk7 dX11_thingOf_81 ?_
      refine k_initT (ci := 1) (x := a1) (y := t4) rfl (va_runI (As := [.int a1, .int t4, .ref (ly 7)]) (rest := [.ref q10]) ⟨hx, hb, hml, hown, hts⟩ (c_X1_init l D q10 a1 t4 (ly 7) H.size) (cwI 3 hts gX11_thingOf_X1_init rfl rfl rfl lk12 lk13 lk14 rfl (by decide +kernel) ⟨(Nat.le_of_ble_eq_true rfl), (Nat.le_of_ble_eq_true rfl)⟩) ⟨i_blind0, fun U hU hW => ⟨rfl, by rw [hU], by rw [hU]; exact hq, va_K.moved hW.alike (hK.sub (tys' := []) [] rfl), va_D1⟩⟩ rfl rfl hl.1 rfl (lv_room (Nat.le_of_ble_eq_true rfl)) dX11_thingOf_84 ⟨(Nat.le_of_ble_eq_true rfl), (Nat.le_of_ble_eq_true rfl)⟩) hH hA hAq hap hly (fun H locs hH => ?_)
      have hw := hw q10 (fun c hc h => hap c hc (by rw [h]; exact hly q10))
      have hr9 : Value.ref q10 = .ref (ly (59 + q10)) := by rw [hly]
      rw [hr9]
      exact g_aret hx hb hr hlocks hK hN (fun c h => List.mem_append_left _ h) hH hw dX11_thingOf_87
    · replace hw := hw.2 hc9
      by_cases hc11 : (gI S o6 2) = 3
      · replace hw := hw.1 hc11
        refine lv_tableIn (tgt := 88) hx hb dX11_thingOf_25 (by rw [hc11]; first | done | decide) (by rw [hc11]; first | done | decide) (by rw [hc11]; first | done | rfl) (by decide) ?_
        refine k_new (ci := 0) (C := RX0) (T := TX0) (N := 3) (fs := [.int 0, .int 0, .null]) hx hb hts hiX0 tyX0 tyX0_ok hown lk15 lk16 lk17 hK hH hA rfl (fun j hj => by rcases (show j = 0 ∨ j = 1 ∨ j = 2 by omega) with rfl | rfl | rfl <;> rfl) (Nat.le_of_ble_eq_true rfl) (Nat.le_of_ble_eq_true rfl) dX11_thingOf_88 (fun q12 H hH hq hAq hap => ?_)
        refine lv_dup hx hb dX11_thingOf_91 rfl ?_
        refine lv_iload_n hx hb dX11_thingOf_92 rfl (lv_at hl 2 rfl) ?_
        refine lv_iload_n hx hb dX11_thingOf_93 rfl (lv_at hl 0 rfl) ?_
        refine lv_aload_n hx hb dX11_thingOf_94 rfl (lv_at hl 1 rfl) ?_
        refine gf_this_6 hx hb hts hiX11 hown hK hn hH lk7 dX11_thingOf_95 ?_
        refine k_initT (ci := 0) (x := a1) (y := t4) rfl (va_runI (As := [.int a1, .int t4, .ref (ly 7)]) (rest := [.ref q12]) ⟨hx, hb, hml, hown, hts⟩ (c_X0_init l D q12 a1 t4 (ly 7) H.size) (cwI 3 hts gX11_thingOf_X0_init rfl rfl rfl lk17 lk18 lk19 rfl (by decide +kernel) ⟨(Nat.le_of_ble_eq_true rfl), (Nat.le_of_ble_eq_true rfl)⟩) ⟨i_blind0, fun U hU hW => ⟨rfl, by rw [hU], by rw [hU]; exact hq, va_K.moved hW.alike (hK.sub (tys' := []) [] rfl), va_D1⟩⟩ rfl rfl hl.1 rfl (lv_room (Nat.le_of_ble_eq_true rfl)) dX11_thingOf_98 ⟨(Nat.le_of_ble_eq_true rfl), (Nat.le_of_ble_eq_true rfl)⟩) hH hA hAq hap hly (fun H locs hH => ?_)
        have hw := hw q12 (fun c hc h => hap c hc (by rw [h]; exact hly q12))
        have hr9 : Value.ref q12 = .ref (ly (59 + q12)) := by rw [hly]
        rw [hr9]
        exact g_aret hx hb hr hlocks hK hN (fun c h => List.mem_append_left _ h) hH hw dX11_thingOf_101
      · replace hw := hw.2 hc11
        by_cases hc13 : (gI S o6 2) = 4
        · replace hw := hw.1 hc13
          refine lv_tableIn (tgt := 102) hx hb dX11_thingOf_25 (by rw [hc13]; first | done | decide) (by rw [hc13]; first | done | decide) (by rw [hc13]; first | done | rfl) (by decide) ?_
          refine k_new (ci := 5) (C := RX5) (T := TX5) (N := 3) (fs := [.int 0, .int 0, .null]) hx hb hts hiX5 tyX5 tyX5_ok hown lk20 lk21 lk22 hK hH hA rfl (fun j hj => by rcases (show j = 0 ∨ j = 1 ∨ j = 2 by omega) with rfl | rfl | rfl <;> rfl) (Nat.le_of_ble_eq_true rfl) (Nat.le_of_ble_eq_true rfl) dX11_thingOf_102 (fun q14 H hH hq hAq hap => ?_)
          refine lv_dup hx hb dX11_thingOf_105 rfl ?_
          refine lv_iload_n hx hb dX11_thingOf_106 rfl (lv_at hl 2 rfl) ?_
          refine lv_iload_n hx hb dX11_thingOf_107 rfl (lv_at hl 0 rfl) ?_
          refine lv_aload_n hx hb dX11_thingOf_108 rfl (lv_at hl 1 rfl) ?_
          refine gf_this_6 hx hb hts hiX11 hown hK hn hH lk7 dX11_thingOf_109 ?_
          refine k_initT (ci := 5) (x := a1) (y := t4) rfl (va_runI (As := [.int a1, .int t4, .ref (ly 7)]) (rest := [.ref q14]) ⟨hx, hb, hml, hown, hts⟩ (c_X5_init l D q14 a1 t4 (ly 7) H.size) (cwI 3 hts gX11_thingOf_X5_init rfl rfl rfl lk22 lk23 lk24 rfl (by decide +kernel) ⟨(Nat.le_of_ble_eq_true rfl), (Nat.le_of_ble_eq_true rfl)⟩) ⟨i_blind0, fun U hU hW => ⟨rfl, by rw [hU], by rw [hU]; exact hq, va_K.moved hW.alike (hK.sub (tys' := []) [] rfl), va_D1⟩⟩ rfl rfl hl.1 rfl (lv_room (Nat.le_of_ble_eq_true rfl)) dX11_thingOf_112 ⟨(Nat.le_of_ble_eq_true rfl), (Nat.le_of_ble_eq_true rfl)⟩) hH hA hAq hap hly (fun H locs hH => ?_)
          have hw := hw q14 (fun c hc h => hap c hc (by rw [h]; exact hly q14))
          have hr9 : Value.ref q14 = .ref (ly (59 + q14)) := by rw [hly]
          rw [hr9]
          exact g_aret hx hb hr hlocks hK hN (fun c h => List.mem_append_left _ h) hH hw dX11_thingOf_115
        · replace hw := hw.2 hc13
          by_cases hc15 : (gI S o6 2) = 5
          · replace hw := hw.1 hc15
            refine lv_tableIn (tgt := 116) hx hb dX11_thingOf_25 (by rw [hc15]; first | done | decide) (by rw [hc15]; first | done | decide) (by rw [hc15]; first | done | rfl) (by decide) ?_
            refine k_new (ci := 2) (C := RX2) (T := TX2) (N := 3) (fs := [.int 0, .int 0, .null]) hx hb hts hiX2 tyX2 tyX2_ok hown lk25 lk26 lk27 hK hH hA rfl (fun j hj => by rcases (show j = 0 ∨ j = 1 ∨ j = 2 by omega) with rfl | rfl | rfl <;> rfl) (Nat.le_of_ble_eq_true rfl) (Nat.le_of_ble_eq_true rfl) dX11_thingOf_116 (fun q16 H hH hq hAq hap => ?_)
            refine lv_dup hx hb dX11_thingOf_119 rfl ?_
            refine lv_iload_n hx hb dX11_thingOf_120 rfl (lv_at hl 2 rfl) ?_
            refine lv_iload_n hx hb dX11_thingOf_121 rfl (lv_at hl 0 rfl) ?_
            refine lv_aload_n hx hb dX11_thingOf_122 rfl (lv_at hl 1 rfl) ?_
            refine gf_this_6 hx hb hts hiX11 hown hK hn hH lk7 dX11_thingOf_123 ?_
            refine k_initT (ci := 2) (x := a1) (y := t4) rfl (va_runI (As := [.int a1, .int t4, .ref (ly 7)]) (rest := [.ref q16]) ⟨hx, hb, hml, hown, hts⟩ (c_X2_init l D q16 a1 t4 (ly 7) H.size) (cwI 3 hts gX11_thingOf_X2_init rfl rfl rfl lk27 lk28 lk29 rfl (by decide +kernel) ⟨(Nat.le_of_ble_eq_true rfl), (Nat.le_of_ble_eq_true rfl)⟩) ⟨i_blind0, fun U hU hW => ⟨rfl, by rw [hU], by rw [hU]; exact hq, va_K.moved hW.alike (hK.sub (tys' := []) [] rfl), va_D1⟩⟩ rfl rfl hl.1 rfl (lv_room (Nat.le_of_ble_eq_true rfl)) dX11_thingOf_126 ⟨(Nat.le_of_ble_eq_true rfl), (Nat.le_of_ble_eq_true rfl)⟩) hH hA hAq hap hly (fun H locs hH => ?_)
            have hw := hw q16 (fun c hc h => hap c hc (by rw [h]; exact hly q16))
            have hr9 : Value.ref q16 = .ref (ly (59 + q16)) := by rw [hly]
            rw [hr9]
            exact g_aret hx hb hr hlocks hK hN (fun c h => List.mem_append_left _ h) hH hw dX11_thingOf_129
          · replace hw := hw.2 hc15
            refine lv_tableOut (tgt := 130) hx hb dX11_thingOf_25 (tb_out5_1 hc7 hc9 hc11 hc13 hc15) (by decide) ?_
            refine k_new (ci := 8) (C := RX8) (T := TX8) (N := 3) (fs := [.int 0, .int 0, .null]) hx hb hts hiX8 tyX8 tyX8_ok hown lk30 lk31 lk32 hK hH hA rfl (fun j hj => by rcases (show j = 0 ∨ j = 1 ∨ j = 2 by omega) with rfl | rfl | rfl <;> rfl) (Nat.le_of_ble_eq_true rfl) (Nat.le_of_ble_eq_true rfl) dX11_thingOf_130 (fun q17 H hH hq hAq hap => ?_)
            refine lv_dup hx hb dX11_thingOf_133 rfl ?_
            refine lv_iload_n hx hb dX11_thingOf_134 rfl (lv_at hl 2 rfl) ?_
            refine lv_iload_n hx hb dX11_thingOf_135 rfl (lv_at hl 0 rfl) ?_
            refine lv_aload_n hx hb dX11_thingOf_136 rfl (lv_at hl 1 rfl) ?_
            refine gf_this_6 hx hb hts hiX11 hown hK hn hH lk7 dX11_thingOf_137 ?_
            refine k_initT (ci := 8) (x := a1) (y := t4) rfl (va_runI (As := [.int a1, .int t4, .ref (ly 7)]) (rest := [.ref q17]) ⟨hx, hb, hml, hown, hts⟩ (c_X8_init l D q17 a1 t4 (ly 7) H.size) (cwI 3 hts gX11_thingOf_X8_init rfl rfl rfl lk32 lk33 lk34 rfl (by decide +kernel) ⟨(Nat.le_of_ble_eq_true rfl), (Nat.le_of_ble_eq_true rfl)⟩) ⟨i_blind0, fun U hU hW => ⟨rfl, by rw [hU], by rw [hU]; exact hq, va_K.moved hW.alike (hK.sub (tys' := []) [] rfl), va_D1⟩⟩ rfl rfl hl.1 rfl (lv_room (Nat.le_of_ble_eq_true rfl)) dX11_thingOf_140 ⟨(Nat.le_of_ble_eq_true rfl), (Nat.le_of_ble_eq_true rfl)⟩) hH hA hAq hap hly (fun H locs hH => ?_)
            have hw := hw q17 (fun c hc h => hap c hc (by rw [h]; exact hly q17))
            have hr9 : Value.ref q17 = .ref (ly (59 + q17)) := by rw [hly]
            rw [hr9]
            exact g_aret hx hb hr hlocks hK hN (fun c h => List.mem_append_left _ h) hH hw dX11_thingOf_143
def wp_X11_sheet (n : List Nat) (a1 : Int32) (a2 : Int32) (a3 : Int32) (S : St) (Q : List Nat → Int32 → St → Prop) : Prop := wp_X11_isSheet a1 S (fun r2 S1 => ((r2 = 0 → Q n (-1 : Int32) S1) ∧ (¬ r2 = 0 → wp_X11_isSort a2 S1 (fun r5 S4 => ((r5 = 0 → ((a2 = (-1 : Int32) → ((a2 = (-1 : Int32) → ((vp_in a1 4 ∧ ∀ S23 : St, S23 = sN S4 4 a1.toNatClampNeg 0 → Q n (1 : Int32) S23))) ∧ (¬ a2 = (-1 : Int32) → ((a3 ≤ (40 : Int32) → ((0 ≤ a3 → (¬ a3 < 0 ∧ a3.toNatClampNeg ≤ 40 ∧ vp_in a1 4 ∧ ∀ q19 q20 : Nat, (∀ c ∈ n, c ≠ 59 + q19) → (∀ c ∈ n ++ [59 + q19], c ≠ 59 + q20) → Q (n ++ [59 + q19] ++ [59 + q20]) (1 : Int32) (sN (sSh S4 (59 + q19) (59 + q20) a2 a3.toNatClampNeg) 4 a1.toNatClampNeg (59 + q19)))) ∧ (¬ 0 ≤ a3 → Q n (-14 : Int32) S4))) ∧ (¬ a3 ≤ (40 : Int32) → Q n (-1 : Int32) S4))))) ∧ (¬ a2 = (-1 : Int32) → Q n (-1 : Int32) S4))) ∧ (¬ r5 = 0 → ((a2 = (-1 : Int32) → ((vp_in a1 4 ∧ ∀ S14 : St, S14 = sN S4 4 a1.toNatClampNeg 0 → Q n (1 : Int32) S14))) ∧ (¬ a2 = (-1 : Int32) → ((a3 ≤ (40 : Int32) → ((0 ≤ a3 → (¬ a3 < 0 ∧ a3.toNatClampNeg ≤ 40 ∧ vp_in a1 4 ∧ ∀ q10 q11 : Nat, (∀ c ∈ n, c ≠ 59 + q10) → (∀ c ∈ n ++ [59 + q10], c ≠ 59 + q11) → Q (n ++ [59 + q10] ++ [59 + q11]) (1 : Int32) (sN (sSh S4 (59 + q10) (59 + q11) a2 a3.toNatClampNeg) 4 a1.toNatClampNeg (59 + q10)))) ∧ (¬ 0 ≤ a3 → Q n (-14 : Int32) S4))) ∧ (¬ a3 ≤ (40 : Int32) → Q n (-1 : Int32) S4))))))))))
set_option maxHeartbeats 4000000 in
set_option maxRecDepth 100000 in
theorem c_X11_sheet (l : Launch) (D : va_G) (kA : Nat → ClassId) (ly : Nat → Nat) (hly : ∀ q, ly (59 + q) = q) (n : List Nat) (hn : ∀ c, c < 59 → c ∈ n) (A : Nat → Prop) (a1 : Int32) (a2 : Int32) (a3 : Int32) : CiG l yX11_sheet wsX11_sheet 2 42 2 42 D (Ec kA ly) ly kA n A [.ref (ly 0), .int a1, .int a2, .int a3] (wp_X11_sheet n a1 a2 a3) := by
  intro S Q
  refine Met.ofW (cc := cX11_sheet) (maxL := 4) (ret := (some .int)) (by decide) rfl ?_
  intro p e s m args below meth c s₁ B hml hv
  obtain ⟨rfl, ⟨⟨hP, hD, hK, hN⟩, hA⟩, hw⟩ := hv
  have hx := B.exec
  have hb := B.bytes
  have hr := B.returns
  have hsub : ∀ c ∈ n, c ∈ n := fun _ h => h
  have hts := atoms_spec (ws := wsX11_sheet) B.pre
  have hown : s.vm.findClass RX11 = some m.cls := findClass_of_methodNamed B.named
  have hlocks := B.notSynchronized
  have hH : Hp D (Ec kA ly) ly n A s.heap S s.heap [] := ⟨hP, hD, va_S.rf⟩
  have hiX11 : ∀ w ∈ u_ws RX11 TX11 12, w ∈ wsX11_sheet := by decide +kernel
  have hiX6 : ∀ w ∈ u_ws RX6 TX6 2, w ∈ wsX11_sheet := by decide +kernel
  have lk0 := hts (.fieldLink RX11 29 "SlowPanes" "sheets" "[LSlowPanes$Sheet;") (by decide +kernel)
  have lk1 := hts (.classLink RX11 27 RX6) (by decide +kernel)
  have lk2 := hts (.instantiable RX6 2) (by decide +kernel)
  have lk3 := hts (.initialized RX6) (by decide +kernel)
  have lk4 := hts (.methodLink RX11 235 yX6_init) (by decide +kernel)
  have lk5 := hts (.instanceMethod yX6_init) (by decide +kernel)
  have hl := lv_entry ([.ref (ly 0), .int a1, .int a2, .int a3]) (n := 4) (Nat.le_of_ble_eq_true rfl)
  rw [lg_entry_eq]
  generalize (lg_sl ([.ref (ly 0), .int a1, .int a2, .int a3]) ++ List.replicate (4 - (lg_sl ([.ref (ly 0), .int a1, .int a2, .int a3])).length) Slot.unset).toArray = ls at hl ⊢
  have hl : lv_has ls 4 [(0, .ref (ly 0)), (1, .int a1), (2, .int a2), (3, .int a3)] := hl
  rw [wp_X11_sheet] at hw
  refine lv_iload_n hx hb dX11_sheet_0 rfl (lv_at hl 1 rfl) ?_
  refine k_afti (va_runS (As := [.int a1]) (rest := []) ⟨hx, hb, hml, hown, hts⟩ (c_X11_isSheet l D kA ly n hn A a1 S _) (va_cwS 1 hts gX11_sheet_X11_isSheet rfl rfl rfl (by decide +kernel) ⟨(Nat.le_of_ble_eq_true rfl), (Nat.le_of_ble_eq_true rfl)⟩) ⟨k_blind, k_pre hK hN hH hw⟩ rfl rfl hl.1 rfl (lv_room (Nat.le_of_ble_eq_true rfl)) dX11_sheet_1 ⟨(Nat.le_of_ble_eq_true rfl), (Nat.le_of_ble_eq_true rfl)⟩) hH (fun r2 S1 H locs hw hH => ?_)
  refine lv_if_eq (tgt := 19) hx hb dX11_sheet_4 (by decide) (fun hc3 => ?_) (fun hc3 => ?_)
  · replace hw := hw.1 hc3
    refine lv_iconst (v := -1) hx hb dX11_sheet_19 (by decide +kernel) ?_
    refine W.widen (k := 2) (n := 42) (Nat.le_of_ble_eq_true rfl) (Nat.le_of_ble_eq_true rfl) ?_
    exact g_iret hx hb hr hlocks hK hN hsub hH hw dX11_sheet_20
  · replace hw := hw.2 hc3
    refine lv_iload_n hx hb dX11_sheet_7 rfl (lv_at hl 2 rfl) ?_
    refine k_afti (va_runS (As := [.int a2]) (rest := []) ⟨hx, hb, hml, hown, hts⟩ (c_X11_isSort l D kA ly n hn A a2 S1 _) (va_cwS 1 hts gX11_sheet_X11_isSort rfl rfl rfl (by decide +kernel) ⟨(Nat.le_of_ble_eq_true rfl), (Nat.le_of_ble_eq_true rfl)⟩) ⟨k_blind, k_pre hK hN hH hw⟩ rfl rfl hl.1 rfl (lv_room (Nat.le_of_ble_eq_true rfl)) dX11_sheet_8 ⟨(Nat.le_of_ble_eq_true rfl), (Nat.le_of_ble_eq_true rfl)⟩) hH (fun r5 S4 H locs hw hH => ?_)
    refine lv_if_ne (tgt := 21) hx hb dX11_sheet_11 (by decide) (fun hc6 => ?_) (fun hc6 => ?_)
    · replace hw := hw.2 hc6
      refine lv_iload_n hx hb dX11_sheet_21 rfl (lv_at hl 2 rfl) ?_
      refine lv_iconst (v := -1) hx hb dX11_sheet_22 (by decide +kernel) ?_
      refine lv_icmp_ne (tgt := 35) hx hb dX11_sheet_23 (by decide) (fun hc7 => ?_) (fun hc7 => ?_)
      · replace hw := hw.2 hc7
        refine lv_iload_n hx hb dX11_sheet_35 rfl (lv_at hl 3 rfl) ?_
        refine lv_bipush (v := 40) hx hb dX11_sheet_36 (by decide +kernel) ?_
        refine lv_icmp_le (tgt := 43) hx hb dX11_sheet_38 (by decide) (fun hc8 => ?_) (fun hc8 => ?_)
        · replace hw := hw.1 hc8
          refine lv_iload_n hx hb dX11_sheet_43 rfl (lv_at hl 3 rfl) ?_
          refine lv_if_ge (tgt := 50) hx hb dX11_sheet_44 (by decide) (fun hc9 => ?_) (fun hc9 => ?_)
          · replace hw := hw.1 hc9
            refine lv_aload_n hx hb dX11_sheet_50 rfl (lv_at hl 0 rfl) ?_
            refine gf_this_3 hx hb hts hiX11 hown hK hn hH lk0 dX11_sheet_51 ?_
            refine lv_iload_n hx hb dX11_sheet_54 rfl (lv_at hl 1 rfl) ?_
            refine k_new (ci := 6) (C := RX6) (T := TX6) (N := 2) (fs := [.int 0, .null]) hx hb hts hiX6 tyX6 tyX6_ok hown lk1 lk2 lk3 hK hH hA rfl (fun j hj => by rcases (show j = 0 ∨ j = 1 by omega) with rfl | rfl <;> rfl) (Nat.le_of_ble_eq_true rfl) (Nat.le_of_ble_eq_true rfl) dX11_sheet_55 (fun q10 H hH hq hAq hap => ?_)
            refine lv_dup hx hb dX11_sheet_58 rfl ?_
            obtain ⟨hx0, hx1, hi9, hw⟩ := hw
            refine lv_iload_n hx hb dX11_sheet_59 rfl (lv_at hl 2 rfl) ?_
            refine lv_iload_n hx hb dX11_sheet_60 rfl (lv_at hl 3 rfl) ?_
            refine k_initS (x := a2) (y := a3) rfl (va_runI (As := [.int a2, .int a3]) (rest := [.ref q10, .int a1, .ref (ly 4)]) ⟨hx, hb, hml, hown, hts⟩ (c_X6_init l D q10 a2 a3 hx0 hx1 H.size) (cwI 2 hts gX11_sheet_X6_init rfl rfl rfl lk3 lk4 lk5 rfl (by decide +kernel) ⟨(Nat.le_of_ble_eq_true rfl), (Nat.le_of_ble_eq_true rfl)⟩) ⟨i_blind0, fun U hU hW => ⟨rfl, by rw [hU], by rw [hU]; exact hq, va_K.moved hW.alike (hK.sub (tys' := []) [] rfl), va_D1⟩⟩ rfl rfl hl.1 rfl (lv_room (Nat.le_of_ble_eq_true rfl)) dX11_sheet_61 ⟨(Nat.le_of_ble_eq_true rfl), (Nat.le_of_ble_eq_true rfl)⟩) hK hH hA hAq hap hly (fun q11 H locs hf2 hH => ?_)
            have hw := hw q10 q11 (fun c hc h => hap c hc (by rw [h]; exact hly q10)) hf2
            have hr9 : Value.ref q10 = .ref (ly (59 + q10)) := by rw [hly]
            rw [hr9]
            have hsub : ∀ c ∈ n, c ∈ n ++ [59 + q10] ++ [59 + q11] := fun c h => List.mem_append_left _ (List.mem_append_left _ h)
            have hn : ∀ c, c < 59 → c ∈ n ++ [59 + q10] ++ [59 + q11] := fun c h => hsub c (hn c h)
            refine k_astS hx hb hK hH (lt_n hn (by decide)) (fun _ => Ec_4) (sSh_is S4 hf2) hi9 dX11_sheet_64 (fun S12 H locs eS12 hH => ?_)
            subst eS12
            refine lv_iconst (v := 1) hx hb dX11_sheet_65 (by decide +kernel) ?_
            exact g_iret hx hb hr hlocks hK hN hsub hH hw dX11_sheet_66
          · replace hw := hw.2 hc9
            refine lv_bipush (v := -14) hx hb dX11_sheet_47 (by decide +kernel) ?_
            refine W.widen (k := 2) (n := 42) (Nat.le_of_ble_eq_true rfl) (Nat.le_of_ble_eq_true rfl) ?_
            exact g_iret hx hb hr hlocks hK hN hsub hH hw dX11_sheet_49
        · replace hw := hw.2 hc8
          refine lv_iconst (v := -1) hx hb dX11_sheet_41 (by decide +kernel) ?_
          refine W.widen (k := 2) (n := 42) (Nat.le_of_ble_eq_true rfl) (Nat.le_of_ble_eq_true rfl) ?_
          exact g_iret hx hb hr hlocks hK hN hsub hH hw dX11_sheet_42
      · replace hw := hw.1 hc7
        refine lv_aload_n hx hb dX11_sheet_26 rfl (lv_at hl 0 rfl) ?_
        refine gf_this_3 hx hb hts hiX11 hown hK hn hH lk0 dX11_sheet_27 ?_
        refine lv_iload_n hx hb dX11_sheet_30 rfl (lv_at hl 1 rfl) ?_
        refine lv_null hx hb dX11_sheet_31 ?_
        obtain ⟨hi_13, hw⟩ := hw
        refine k_astS0 hx hb hK hH (lt_n hn (by decide)) (fun _ => Ec_4) hi_13 dX11_sheet_32 (fun S14 H locs eS14 hH => ?_)
        replace hw := hw S14 eS14
        refine lv_iconst (v := 1) hx hb dX11_sheet_33 (by decide +kernel) ?_
        refine W.widen (k := 2) (n := 42) (Nat.le_of_ble_eq_true rfl) (Nat.le_of_ble_eq_true rfl) ?_
        exact g_iret hx hb hr hlocks hK hN hsub hH hw dX11_sheet_34
    · replace hw := hw.1 hc6
      refine lv_iload_n hx hb dX11_sheet_14 rfl (lv_at hl 2 rfl) ?_
      refine lv_iconst (v := -1) hx hb dX11_sheet_15 (by decide +kernel) ?_
      refine lv_icmp_eq (tgt := 21) hx hb dX11_sheet_16 (by decide) (fun hc15 => ?_) (fun hc15 => ?_)
      · replace hw := hw.1 hc15
        refine lv_iload_n hx hb dX11_sheet_21 rfl (lv_at hl 2 rfl) ?_
        refine lv_iconst (v := -1) hx hb dX11_sheet_22 (by decide +kernel) ?_
        refine lv_icmp_ne (tgt := 35) hx hb dX11_sheet_23 (by decide) (fun hc16 => ?_) (fun hc16 => ?_)
        · replace hw := hw.2 hc16
          refine lv_iload_n hx hb dX11_sheet_35 rfl (lv_at hl 3 rfl) ?_
          refine lv_bipush (v := 40) hx hb dX11_sheet_36 (by decide +kernel) ?_
          refine lv_icmp_le (tgt := 43) hx hb dX11_sheet_38 (by decide) (fun hc17 => ?_) (fun hc17 => ?_)
          · replace hw := hw.1 hc17
            refine lv_iload_n hx hb dX11_sheet_43 rfl (lv_at hl 3 rfl) ?_
            refine lv_if_ge (tgt := 50) hx hb dX11_sheet_44 (by decide) (fun hc18 => ?_) (fun hc18 => ?_)
            · replace hw := hw.1 hc18
              refine lv_aload_n hx hb dX11_sheet_50 rfl (lv_at hl 0 rfl) ?_
              refine gf_this_3 hx hb hts hiX11 hown hK hn hH lk0 dX11_sheet_51 ?_
              refine lv_iload_n hx hb dX11_sheet_54 rfl (lv_at hl 1 rfl) ?_
              refine k_new (ci := 6) (C := RX6) (T := TX6) (N := 2) (fs := [.int 0, .null]) hx hb hts hiX6 tyX6 tyX6_ok hown lk1 lk2 lk3 hK hH hA rfl (fun j hj => by rcases (show j = 0 ∨ j = 1 by omega) with rfl | rfl <;> rfl) (Nat.le_of_ble_eq_true rfl) (Nat.le_of_ble_eq_true rfl) dX11_sheet_55 (fun q19 H hH hq hAq hap => ?_)
              refine lv_dup hx hb dX11_sheet_58 rfl ?_
              obtain ⟨hx0, hx1, hi9, hw⟩ := hw
              refine lv_iload_n hx hb dX11_sheet_59 rfl (lv_at hl 2 rfl) ?_
              refine lv_iload_n hx hb dX11_sheet_60 rfl (lv_at hl 3 rfl) ?_
              refine k_initS (x := a2) (y := a3) rfl (va_runI (As := [.int a2, .int a3]) (rest := [.ref q19, .int a1, .ref (ly 4)]) ⟨hx, hb, hml, hown, hts⟩ (c_X6_init l D q19 a2 a3 hx0 hx1 H.size) (cwI 2 hts gX11_sheet_X6_init rfl rfl rfl lk3 lk4 lk5 rfl (by decide +kernel) ⟨(Nat.le_of_ble_eq_true rfl), (Nat.le_of_ble_eq_true rfl)⟩) ⟨i_blind0, fun U hU hW => ⟨rfl, by rw [hU], by rw [hU]; exact hq, va_K.moved hW.alike (hK.sub (tys' := []) [] rfl), va_D1⟩⟩ rfl rfl hl.1 rfl (lv_room (Nat.le_of_ble_eq_true rfl)) dX11_sheet_61 ⟨(Nat.le_of_ble_eq_true rfl), (Nat.le_of_ble_eq_true rfl)⟩) hK hH hA hAq hap hly (fun q20 H locs hf2 hH => ?_)
              have hw := hw q19 q20 (fun c hc h => hap c hc (by rw [h]; exact hly q19)) hf2
              have hr9 : Value.ref q19 = .ref (ly (59 + q19)) := by rw [hly]
              rw [hr9]
              have hsub : ∀ c ∈ n, c ∈ n ++ [59 + q19] ++ [59 + q20] := fun c h => List.mem_append_left _ (List.mem_append_left _ h)
              have hn : ∀ c, c < 59 → c ∈ n ++ [59 + q19] ++ [59 + q20] := fun c h => hsub c (hn c h)
              refine k_astS hx hb hK hH (lt_n hn (by decide)) (fun _ => Ec_4) (sSh_is S4 hf2) hi9 dX11_sheet_64 (fun S21 H locs eS21 hH => ?_)
              subst eS21
              refine lv_iconst (v := 1) hx hb dX11_sheet_65 (by decide +kernel) ?_
              exact g_iret hx hb hr hlocks hK hN hsub hH hw dX11_sheet_66
            · replace hw := hw.2 hc18
              refine lv_bipush (v := -14) hx hb dX11_sheet_47 (by decide +kernel) ?_
              refine W.widen (k := 2) (n := 42) (Nat.le_of_ble_eq_true rfl) (Nat.le_of_ble_eq_true rfl) ?_
              exact g_iret hx hb hr hlocks hK hN hsub hH hw dX11_sheet_49
          · replace hw := hw.2 hc17
            refine lv_iconst (v := -1) hx hb dX11_sheet_41 (by decide +kernel) ?_
            refine W.widen (k := 2) (n := 42) (Nat.le_of_ble_eq_true rfl) (Nat.le_of_ble_eq_true rfl) ?_
            exact g_iret hx hb hr hlocks hK hN hsub hH hw dX11_sheet_42
        · replace hw := hw.1 hc16
          refine lv_aload_n hx hb dX11_sheet_26 rfl (lv_at hl 0 rfl) ?_
          refine gf_this_3 hx hb hts hiX11 hown hK hn hH lk0 dX11_sheet_27 ?_
          refine lv_iload_n hx hb dX11_sheet_30 rfl (lv_at hl 1 rfl) ?_
          refine lv_null hx hb dX11_sheet_31 ?_
          obtain ⟨hi_22, hw⟩ := hw
          refine k_astS0 hx hb hK hH (lt_n hn (by decide)) (fun _ => Ec_4) hi_22 dX11_sheet_32 (fun S23 H locs eS23 hH => ?_)
          replace hw := hw S23 eS23
          refine lv_iconst (v := 1) hx hb dX11_sheet_33 (by decide +kernel) ?_
          refine W.widen (k := 2) (n := 42) (Nat.le_of_ble_eq_true rfl) (Nat.le_of_ble_eq_true rfl) ?_
          exact g_iret hx hb hr hlocks hK hN hsub hH hw dX11_sheet_34
      · replace hw := hw.2 hc15
        refine lv_iconst (v := -1) hx hb dX11_sheet_19 (by decide +kernel) ?_
        refine W.widen (k := 2) (n := 42) (Nat.le_of_ble_eq_true rfl) (Nat.le_of_ble_eq_true rfl) ?_
        exact g_iret hx hb hr hlocks hK hN hsub hH hw dX11_sheet_20
def wp_X11_act (n : List Nat) (a1 : Int32) (a2 : Int32) (a3 : Int32) (S : St) (Q : List Nat → Int32 → St → Prop) : Prop := wp_X9_clear S (fun S1 => wp_X11_isShelf a1 S1 (fun r3 S2 => ((r3 = 0 → Q n (0 : Int32) S2) ∧ (¬ r3 = 0 → ((a2 < 0 → Q n (0 : Int32) S2) ∧ (¬ a2 < 0 → (((4 : Int32) ≤ a2 → Q n (0 : Int32) S2) ∧ (¬ (4 : Int32) ≤ a2 → (vp_in a1 4 ∧ wp_X11_isPane (gA S2 5 a1.toNatClampNeg) S2 (fun r9 S8 => ((r9 = 0 → Q n (0 : Int32) S8) ∧ (¬ r9 = 0 → (vp_in a1 4 ∧ wp_X11_thingOf n (gA S8 5 a1.toNatClampNeg) S8 (fun n o12 S13 => ((isTh n S13 8 o12 ∧ ((a2 = 0 → wp_X8_shows_c8 n o12 a3 S13 (fun r17 S16 => (((gI S16 7 2) = 0 → Q n r17 S16) ∧ (¬ (gI S16 7 2) = 0 → Q n (-15 : Int32) S16)))) ∧ (¬ a2 = 0 → ((a2 = 1 → wp_X8_moves_c8 n o12 a3 S13 (fun r21 S20 => (((gI S20 7 2) = 0 → Q n r21 S20) ∧ (¬ (gI S20 7 2) = 0 → Q n (-15 : Int32) S20)))) ∧ (¬ a2 = 1 → ((a2 = 2 → wp_X8_shares_c8 n o12 a3 S13 (fun r25 S24 => (((gI S24 7 2) = 0 → Q n r25 S24) ∧ (¬ (gI S24 7 2) = 0 → Q n (-15 : Int32) S24)))) ∧ (¬ a2 = 2 → wp_X8_tells_c8 n o12 a3 S13 (fun r28 S27 => (((gI S27 7 2) = 0 → Q n r28 S27) ∧ (¬ (gI S27 7 2) = 0 → Q n (-15 : Int32) S27)))))))))) ∨ (isTh n S13 7 o12 ∧ ((a2 = 0 → wp_X8_shows_c7 n o12 a3 S13 (fun r33 S32 => (((gI S32 7 2) = 0 → Q n r33 S32) ∧ (¬ (gI S32 7 2) = 0 → Q n (-15 : Int32) S32)))) ∧ (¬ a2 = 0 → ((a2 = 1 → wp_X7_moves_c7 n o12 a3 S13 (fun r37 S36 => (((gI S36 7 2) = 0 → Q n r37 S36) ∧ (¬ (gI S36 7 2) = 0 → Q n (-15 : Int32) S36)))) ∧ (¬ a2 = 1 → ((a2 = 2 → wp_X8_shares_c7 n o12 a3 S13 (fun r41 S40 => (((gI S40 7 2) = 0 → Q n r41 S40) ∧ (¬ (gI S40 7 2) = 0 → Q n (-15 : Int32) S40)))) ∧ (¬ a2 = 2 → wp_X8_tells_c7 n o12 a3 S13 (fun r44 S43 => (((gI S43 7 2) = 0 → Q n r44 S43) ∧ (¬ (gI S43 7 2) = 0 → Q n (-15 : Int32) S43)))))))))) ∨ (isTh n S13 1 o12 ∧ ((a2 = 0 → wp_X1_shows_c1 n o12 a3 S13 (fun r49 S48 => (((gI S48 7 2) = 0 → Q n r49 S48) ∧ (¬ (gI S48 7 2) = 0 → Q n (-15 : Int32) S48)))) ∧ (¬ a2 = 0 → ((a2 = 1 → wp_X7_moves_c1 n o12 a3 S13 (fun r53 S52 => (((gI S52 7 2) = 0 → Q n r53 S52) ∧ (¬ (gI S52 7 2) = 0 → Q n (-15 : Int32) S52)))) ∧ (¬ a2 = 1 → ((a2 = 2 → wp_X1_shares_c1 n o12 a3 S13 (fun r57 S56 => (((gI S56 7 2) = 0 → Q n r57 S56) ∧ (¬ (gI S56 7 2) = 0 → Q n (-15 : Int32) S56)))) ∧ (¬ a2 = 2 → wp_X8_tells_c1 n o12 a3 S13 (fun r60 S59 => (((gI S59 7 2) = 0 → Q n r60 S59) ∧ (¬ (gI S59 7 2) = 0 → Q n (-15 : Int32) S59)))))))))) ∨ (isTh n S13 0 o12 ∧ ((a2 = 0 → wp_X0_shows_c0 n o12 a3 S13 (fun r65 S64 => (((gI S64 7 2) = 0 → Q n r65 S64) ∧ (¬ (gI S64 7 2) = 0 → Q n (-15 : Int32) S64)))) ∧ (¬ a2 = 0 → ((a2 = 1 → wp_X8_moves_c0 n o12 a3 S13 (fun r69 S68 => (((gI S68 7 2) = 0 → Q n r69 S68) ∧ (¬ (gI S68 7 2) = 0 → Q n (-15 : Int32) S68)))) ∧ (¬ a2 = 1 → ((a2 = 2 → wp_X8_shares_c0 n o12 a3 S13 (fun r73 S72 => (((gI S72 7 2) = 0 → Q n r73 S72) ∧ (¬ (gI S72 7 2) = 0 → Q n (-15 : Int32) S72)))) ∧ (¬ a2 = 2 → wp_X0_tells_c0 n o12 a3 S13 (fun r76 S75 => (((gI S75 7 2) = 0 → Q n r76 S75) ∧ (¬ (gI S75 7 2) = 0 → Q n (-15 : Int32) S75)))))))))) ∨ (isTh n S13 5 o12 ∧ ((a2 = 0 → wp_X5_shows_c5 n o12 a3 S13 (fun r81 S80 => (((gI S80 7 2) = 0 → Q n r81 S80) ∧ (¬ (gI S80 7 2) = 0 → Q n (-15 : Int32) S80)))) ∧ (¬ a2 = 0 → ((a2 = 1 → wp_X5_moves_c5 n o12 a3 S13 (fun r85 S84 => (((gI S84 7 2) = 0 → Q n r85 S84) ∧ (¬ (gI S84 7 2) = 0 → Q n (-15 : Int32) S84)))) ∧ (¬ a2 = 1 → ((a2 = 2 → wp_X8_shares_c5 n o12 a3 S13 (fun r89 S88 => (((gI S88 7 2) = 0 → Q n r89 S88) ∧ (¬ (gI S88 7 2) = 0 → Q n (-15 : Int32) S88)))) ∧ (¬ a2 = 2 → wp_X0_tells_c5 n o12 a3 S13 (fun r92 S91 => (((gI S91 7 2) = 0 → Q n r92 S91) ∧ (¬ (gI S91 7 2) = 0 → Q n (-15 : Int32) S91)))))))))) ∨ (isTh n S13 2 o12 ∧ ((a2 = 0 → wp_X8_shows_c2 n o12 a3 S13 (fun r97 S96 => (((gI S96 7 2) = 0 → Q n r97 S96) ∧ (¬ (gI S96 7 2) = 0 → Q n (-15 : Int32) S96)))) ∧ (¬ a2 = 0 → ((a2 = 1 → wp_X8_moves_c2 n o12 a3 S13 (fun r101 S100 => (((gI S100 7 2) = 0 → Q n r101 S100) ∧ (¬ (gI S100 7 2) = 0 → Q n (-15 : Int32) S100)))) ∧ (¬ a2 = 1 → ((a2 = 2 → wp_X2_shares_c2 n o12 a3 S13 (fun r105 S104 => (((gI S104 7 2) = 0 → Q n r105 S104) ∧ (¬ (gI S104 7 2) = 0 → Q n (-15 : Int32) S104)))) ∧ (¬ a2 = 2 → wp_X2_tells_c2 n o12 a3 S13 (fun r108 S107 => (((gI S107 7 2) = 0 → Q n r108 S107) ∧ (¬ (gI S107 7 2) = 0 → Q n (-15 : Int32) S107)))))))))))))))))))))))))
set_option maxHeartbeats 4000000 in
set_option maxRecDepth 100000 in
theorem c_X11_act (l : Launch) (D : va_G) (kA : Nat → ClassId) (ly : Nat → Nat) (hly : ∀ q, ly (59 + q) = q) (n : List Nat) (hn : ∀ c, c < 59 → c ∈ n) (A : Nat → Prop) (a1 : Int32) (a2 : Int32) (a3 : Int32) : CiG l yX11_act (wsX11_act ++ wzT) 8 168 1 3 D (Ec kA ly) ly kA n A [.ref (ly 0), .int a1, .int a2, .int a3] (wp_X11_act n a1 a2 a3) := by
  intro S Q
  refine Met.ofW (cc := cX11_act) (maxL := 6) (ret := (some .int)) (by decide) rfl ?_
  intro p e s m args below meth c s₁ B hml hv
  obtain ⟨rfl, ⟨⟨hP, hD, hK, hN⟩, hA⟩, hw⟩ := hv
  have hx := B.exec
  have hb := B.bytes
  have hr := B.returns
  have hsub : ∀ c ∈ n, c ∈ n := fun _ h => h
  have hts0 := atoms_spec (ws := wsX11_act ++ wzT) B.pre
  have hts : ∀ w ∈ wsX11_act, w.before _ s = true := fun w h => hts0 w (List.mem_append_left _ h)
  have hown : s.vm.findClass RX11 = some m.cls := findClass_of_methodNamed B.named
  have hlocks := B.notSynchronized
  have hH : Hp D (Ec kA ly) ly n A s.heap S s.heap [] := ⟨hP, hD, va_S.rf⟩
  have hiX11 : ∀ w ∈ u_ws RX11 TX11 12, w ∈ wsX11_act := by decide +kernel
  have hiX9 : ∀ w ∈ u_ws RX9 TX9 3, w ∈ wsX11_act := by decide +kernel
  have lk0 := hts (.fieldLink RX11 42 "SlowPanes" "trace" "LSlowPanes$Trace;") (by decide +kernel)
  have lk1 := hts (.fieldLink RX11 33 "SlowPanes" "shelfPanes" "[I") (by decide +kernel)
  have lk2 := hts (.fieldLink RX11 269 "SlowPanes$Trace" "isParted" "Z") (by decide +kernel)
  have hl := lv_entry ([.ref (ly 0), .int a1, .int a2, .int a3]) (n := 6) (Nat.le_of_ble_eq_true rfl)
  rw [lg_entry_eq]
  generalize (lg_sl ([.ref (ly 0), .int a1, .int a2, .int a3]) ++ List.replicate (6 - (lg_sl ([.ref (ly 0), .int a1, .int a2, .int a3])).length) Slot.unset).toArray = ls at hl ⊢
  have hl : lv_has ls 6 [(0, .ref (ly 0)), (1, .int a1), (2, .int a2), (3, .int a3)] := hl
  rw [wp_X11_act] at hw
  refine lv_aload_n hx hb dX11_act_0 rfl (lv_at hl 0 rfl) ?_
  refine gf_this_6 hx hb hts hiX11 hown hK hn hH lk0 dX11_act_1 ?_
  refine k_aftv (va_runV (As := []) (rest := []) ⟨hx, hb, hml, hown, hts⟩ (c_X9_clear l D kA ly n hn A S _) (cwV 0 hts gX11_act_X9_clear rfl rfl rfl (by decide +kernel) ⟨(Nat.le_of_ble_eq_true rfl), (Nat.le_of_ble_eq_true rfl)⟩) ⟨k_blind, (k_recv hK hH (lt_n hn (by decide)) Ec_7 rfl), k_pre hK hN hH hw⟩ rfl rfl hl.1 rfl (lv_room (Nat.le_of_ble_eq_true rfl)) dX11_act_4 ⟨(Nat.le_of_ble_eq_true rfl), (Nat.le_of_ble_eq_true rfl)⟩) hH (fun S1 H locs hw hH => ?_)
  refine lv_iload_n hx hb dX11_act_7 rfl (lv_at hl 1 rfl) ?_
  refine k_afti (va_runS (As := [.int a1]) (rest := []) ⟨hx, hb, hml, hown, hts⟩ (c_X11_isShelf l D kA ly n hn A a1 S1 _) (va_cwS 1 hts gX11_act_X11_isShelf rfl rfl rfl (by decide +kernel) ⟨(Nat.le_of_ble_eq_true rfl), (Nat.le_of_ble_eq_true rfl)⟩) ⟨k_blind, k_pre hK hN hH hw⟩ rfl rfl hl.1 rfl (lv_room (Nat.le_of_ble_eq_true rfl)) dX11_act_8 ⟨(Nat.le_of_ble_eq_true rfl), (Nat.le_of_ble_eq_true rfl)⟩) hH (fun r3 S2 H locs hw hH => ?_)
  refine lv_if_eq (tgt := 36) hx hb dX11_act_11 (by decide) (fun hc4 => ?_) (fun hc4 => ?_)
  · replace hw := hw.1 hc4
    refine lv_iconst (v := 0) hx hb dX11_act_36 (by decide +kernel) ?_
    refine W.widen (k := 1) (n := 3) (Nat.le_of_ble_eq_true rfl) (Nat.le_of_ble_eq_true rfl) ?_
    exact g_iret hx hb hr hlocks hK hN hsub hH hw dX11_act_37
  · replace hw := hw.2 hc4
    refine lv_iload_n hx hb dX11_act_14 rfl (lv_at hl 2 rfl) ?_
    refine lv_if_lt (tgt := 36) hx hb dX11_act_15 (by decide) (fun hc5 => ?_) (fun hc5 => ?_)
    · replace hw := hw.1 hc5
      refine lv_iconst (v := 0) hx hb dX11_act_36 (by decide +kernel) ?_
      refine W.widen (k := 1) (n := 3) (Nat.le_of_ble_eq_true rfl) (Nat.le_of_ble_eq_true rfl) ?_
      exact g_iret hx hb hr hlocks hK hN hsub hH hw dX11_act_37
    · replace hw := hw.2 hc5
      refine lv_iload_n hx hb dX11_act_18 rfl (lv_at hl 2 rfl) ?_
      refine lv_iconst (v := 4) hx hb dX11_act_19 (by decide +kernel) ?_
      refine lv_icmp_ge (tgt := 36) hx hb dX11_act_20 (by decide) (fun hc6 => ?_) (fun hc6 => ?_)
      · replace hw := hw.1 hc6
        refine lv_iconst (v := 0) hx hb dX11_act_36 (by decide +kernel) ?_
        refine W.widen (k := 1) (n := 3) (Nat.le_of_ble_eq_true rfl) (Nat.le_of_ble_eq_true rfl) ?_
        exact g_iret hx hb hr hlocks hK hN hsub hH hw dX11_act_37
      · replace hw := hw.2 hc6
        refine lv_aload_n hx hb dX11_act_23 rfl (lv_at hl 0 rfl) ?_
        refine lv_aload_n hx hb dX11_act_24 rfl (lv_at hl 0 rfl) ?_
        refine gf_this_4 hx hb hts hiX11 hown hK hn hH lk1 dX11_act_25 ?_
        refine lv_iload_n hx hb dX11_act_28 rfl (lv_at hl 1 rfl) ?_
        obtain ⟨hi_7, hw⟩ := hw
        refine k_ild hx hb hK hH (lt_n hn (by decide)) Ec_5 hi_7 dX11_act_29 ?_
        refine k_afti (va_runV (As := [.int (gA S2 5 a1.toNatClampNeg)]) (rest := []) ⟨hx, hb, hml, hown, hts⟩ (c_X11_isPane l D kA ly n hn A (gA S2 5 a1.toNatClampNeg) S2 _) (cwV 1 hts gX11_act_X11_isPane rfl rfl rfl (by decide +kernel) ⟨(Nat.le_of_ble_eq_true rfl), (Nat.le_of_ble_eq_true rfl)⟩) ⟨k_blind, (k_recv hK hH (lt_n hn (by decide)) Ec_0 rfl), k_pre hK hN hH hw⟩ rfl rfl hl.1 rfl (lv_room (Nat.le_of_ble_eq_true rfl)) dX11_act_30 ⟨(Nat.le_of_ble_eq_true rfl), (Nat.le_of_ble_eq_true rfl)⟩) hH (fun r9 S8 H locs hw hH => ?_)
        refine lv_if_ne (tgt := 38) hx hb dX11_act_33 (by decide) (fun hc10 => ?_) (fun hc10 => ?_)
        · replace hw := hw.2 hc10
          refine lv_aload_n hx hb dX11_act_38 rfl (lv_at hl 0 rfl) ?_
          refine lv_aload_n hx hb dX11_act_39 rfl (lv_at hl 0 rfl) ?_
          refine gf_this_4 hx hb hts hiX11 hown hK hn hH lk1 dX11_act_40 ?_
          refine lv_iload_n hx hb dX11_act_43 rfl (lv_at hl 1 rfl) ?_
          obtain ⟨hi_11, hw⟩ := hw
          refine k_ild hx hb hK hH (lt_n hn (by decide)) Ec_5 hi_11 dX11_act_44 ?_
          refine g_aftr (va_runV (As := [.int (gA S8 5 a1.toNatClampNeg)]) (rest := []) ⟨hx, hb, hml, hown, hts⟩ (c_X11_thingOf l D kA ly hly n hn A (gA S8 5 a1.toNatClampNeg) S8 _) (cwV 1 hts gX11_act_X11_thingOf rfl rfl rfl (by decide +kernel) ⟨(Nat.le_of_ble_eq_true rfl), (Nat.le_of_ble_eq_true rfl)⟩) ⟨g_blind, (k_recv hK hH (lt_n hn (by decide)) Ec_0 rfl), g_pre hK hN hH hA hw⟩ rfl rfl hl.1 rfl (lv_room (Nat.le_of_ble_eq_true rfl)) dX11_act_45 ⟨(Nat.le_of_ble_eq_true rfl), (Nat.le_of_ble_eq_true rfl)⟩) hH (fun n o12 S13 H locs hw hsub hH => ?_)
          have hn : ∀ c, c < 59 → c ∈ n := fun c h => hsub c (hn c h)
          rcases hw with hw | hw
          · obtain ⟨hs14, hw⟩ := hw
            refine lv_astore (lv' := [(4, .ref (ly o12)), (0, .ref (ly 0)), (1, .int a1), (2, .int a2), (3, .int a3)]) hx hb dX11_act_48 hl (by decide) rfl (fun ls hl => ?_)
            refine lv_iload_n hx hb dX11_act_50 rfl (lv_at hl 3 rfl) ?_
            by_cases hc15 : a2 = 0
            · replace hw := hw.1 hc15
              refine lv_tableIn (tgt := 76) hx hb dX11_act_51 (by rw [hc15]; first | done | decide) (by rw [hc15]; first | done | decide) (by rw [hc15]; first | done | rfl) (by decide) ?_
              refine lv_aload hx hb dX11_act_76 (lv_at hl 0 rfl) ?_
              refine lv_iload_n hx hb dX11_act_78 rfl (lv_at hl 4 rfl) ?_
              refine k_afti (va_runV (As := [.int a3]) (rest := []) ⟨hx, hb, hml, hown, hts0⟩ (c_X8_shows_c8 l D kA ly n hn A o12 a3 S13 _) (cwV 1 hts0 (good_pre gX11_act_X8_shows (fun w h => List.mem_append_left _ h) (wz_goodIn (fun w h => List.mem_append_right _ h) (List.mem_append_right _ (List.mem_append_right _ (List.mem_append_right _ (List.mem_append_right _ (List.mem_append_right _ (List.mem_append_right _ (List.mem_append_right _ (List.mem_append_right _ (List.mem_append_right _ (List.mem_append_left _ List.mem_cons_self)))))))))))) rfl rfl rfl (by decide +kernel) ⟨(Nat.le_of_ble_eq_true rfl), (Nat.le_of_ble_eq_true rfl)⟩) ⟨k_blind, (k_recv hK hH hs14.2.1 (Ec_th hs14) rfl), k_pre hK hN hH hw⟩ rfl rfl hl.1 rfl (lv_room (Nat.le_of_ble_eq_true rfl)) dX11_act_79 ⟨(Nat.le_of_ble_eq_true rfl), (Nat.le_of_ble_eq_true rfl)⟩) hH (fun r17 S16 H locs hw hH => ?_)
              refine lv_istore (lv' := [(5, .int r17), (4, .ref (ly o12)), (0, .ref (ly 0)), (1, .int a1), (2, .int a2), (3, .int a3)]) hx hb dX11_act_82 hl (by decide) rfl (fun ls hl => ?_)
              refine lv_goto (tgt := 117) hx hb dX11_act_84 (by decide) ?_
              refine lv_aload_n hx hb dX11_act_117 rfl (lv_at hl 2 rfl) ?_
              refine gf_this_6 hx hb hts hiX11 hown hK hn hH lk0 dX11_act_118 ?_
              refine gf_tr_2 hx hb hts hiX9 hown hK hn hH lk2 dX11_act_121 ?_
              refine lv_if_eq (tgt := 132) hx hb dX11_act_124 (by decide) (fun hc18 => ?_) (fun hc18 => ?_)
              · replace hw := hw.1 hc18
                refine lv_iload hx hb dX11_act_132 (lv_at hl 0 rfl) ?_
                refine W.widen (k := 1) (n := 3) (Nat.le_of_ble_eq_true rfl) (Nat.le_of_ble_eq_true rfl) ?_
                exact g_iret hx hb hr hlocks hK hN hsub hH hw dX11_act_134
              · replace hw := hw.2 hc18
                refine lv_bipush (v := -15) hx hb dX11_act_127 (by decide +kernel) ?_
                refine lv_goto (tgt := 134) hx hb dX11_act_129 (by decide) ?_
                refine W.widen (k := 1) (n := 3) (Nat.le_of_ble_eq_true rfl) (Nat.le_of_ble_eq_true rfl) ?_
                exact g_iret hx hb hr hlocks hK hN hsub hH hw dX11_act_134
            · replace hw := hw.2 hc15
              by_cases hc19 : a2 = 1
              · replace hw := hw.1 hc19
                refine lv_tableIn (tgt := 87) hx hb dX11_act_51 (by rw [hc19]; first | done | decide) (by rw [hc19]; first | done | decide) (by rw [hc19]; first | done | rfl) (by decide) ?_
                refine lv_aload hx hb dX11_act_87 (lv_at hl 0 rfl) ?_
                refine lv_iload_n hx hb dX11_act_89 rfl (lv_at hl 4 rfl) ?_
                refine k_afti (va_runV (As := [.int a3]) (rest := []) ⟨hx, hb, hml, hown, hts0⟩ (c_X8_moves_c8 l D kA ly n hn A o12 a3 S13 _) (cwV 1 hts0 (good_pre gX11_act_X8_moves (fun w h => List.mem_append_left _ h) (wz_goodIn (fun w h => List.mem_append_right _ h) (List.mem_append_right _ (List.mem_append_right _ (List.mem_append_right _ (List.mem_append_right _ (List.mem_append_right _ (List.mem_append_right _ (List.mem_append_right _ (List.mem_append_right _ (List.mem_append_right _ (List.mem_append_right _ (List.mem_append_left _ List.mem_cons_self))))))))))))) rfl rfl rfl (by decide +kernel) ⟨(Nat.le_of_ble_eq_true rfl), (Nat.le_of_ble_eq_true rfl)⟩) ⟨k_blind, (k_recv hK hH hs14.2.1 (Ec_th hs14) rfl), k_pre hK hN hH hw⟩ rfl rfl hl.1 rfl (lv_room (Nat.le_of_ble_eq_true rfl)) dX11_act_90 ⟨(Nat.le_of_ble_eq_true rfl), (Nat.le_of_ble_eq_true rfl)⟩) hH (fun r21 S20 H locs hw hH => ?_)
                refine lv_istore (lv' := [(5, .int r21), (4, .ref (ly o12)), (0, .ref (ly 0)), (1, .int a1), (2, .int a2), (3, .int a3)]) hx hb dX11_act_93 hl (by decide) rfl (fun ls hl => ?_)
                refine lv_goto (tgt := 117) hx hb dX11_act_95 (by decide) ?_
                refine lv_aload_n hx hb dX11_act_117 rfl (lv_at hl 2 rfl) ?_
                refine gf_this_6 hx hb hts hiX11 hown hK hn hH lk0 dX11_act_118 ?_
                refine gf_tr_2 hx hb hts hiX9 hown hK hn hH lk2 dX11_act_121 ?_
                refine lv_if_eq (tgt := 132) hx hb dX11_act_124 (by decide) (fun hc22 => ?_) (fun hc22 => ?_)
                · replace hw := hw.1 hc22
                  refine lv_iload hx hb dX11_act_132 (lv_at hl 0 rfl) ?_
                  refine W.widen (k := 1) (n := 3) (Nat.le_of_ble_eq_true rfl) (Nat.le_of_ble_eq_true rfl) ?_
                  exact g_iret hx hb hr hlocks hK hN hsub hH hw dX11_act_134
                · replace hw := hw.2 hc22
                  refine lv_bipush (v := -15) hx hb dX11_act_127 (by decide +kernel) ?_
                  refine lv_goto (tgt := 134) hx hb dX11_act_129 (by decide) ?_
                  refine W.widen (k := 1) (n := 3) (Nat.le_of_ble_eq_true rfl) (Nat.le_of_ble_eq_true rfl) ?_
                  exact g_iret hx hb hr hlocks hK hN hsub hH hw dX11_act_134
              · replace hw := hw.2 hc19
                by_cases hc23 : a2 = 2
                · replace hw := hw.1 hc23
                  refine lv_tableIn (tgt := 98) hx hb dX11_act_51 (by rw [hc23]; first | done | decide) (by rw [hc23]; first | done | decide) (by rw [hc23]; first | done | rfl) (by decide) ?_
                  refine lv_aload hx hb dX11_act_98 (lv_at hl 0 rfl) ?_
                  refine lv_iload_n hx hb dX11_act_100 rfl (lv_at hl 4 rfl) ?_
                  refine k_afti (va_runV (As := [.int a3]) (rest := []) ⟨hx, hb, hml, hown, hts0⟩ (c_X8_shares_c8 l D kA ly n hn A o12 a3 S13 _) (cwV 1 hts0 (good_pre gX11_act_X8_shares (fun w h => List.mem_append_left _ h) (wz_goodIn (fun w h => List.mem_append_right _ h) (List.mem_append_right _ (List.mem_append_right _ (List.mem_append_right _ (List.mem_append_right _ (List.mem_append_right _ (List.mem_append_right _ (List.mem_append_right _ (List.mem_append_right _ (List.mem_append_right _ (List.mem_append_right _ (List.mem_append_right _ (List.mem_append_left _ List.mem_cons_self)))))))))))))) rfl rfl rfl (by decide +kernel) ⟨(Nat.le_of_ble_eq_true rfl), (Nat.le_of_ble_eq_true rfl)⟩) ⟨k_blind, (k_recv hK hH hs14.2.1 (Ec_th hs14) rfl), k_pre hK hN hH hw⟩ rfl rfl hl.1 rfl (lv_room (Nat.le_of_ble_eq_true rfl)) dX11_act_101 ⟨(Nat.le_of_ble_eq_true rfl), (Nat.le_of_ble_eq_true rfl)⟩) hH (fun r25 S24 H locs hw hH => ?_)
                  refine lv_istore (lv' := [(5, .int r25), (4, .ref (ly o12)), (0, .ref (ly 0)), (1, .int a1), (2, .int a2), (3, .int a3)]) hx hb dX11_act_104 hl (by decide) rfl (fun ls hl => ?_)
                  refine lv_goto (tgt := 117) hx hb dX11_act_106 (by decide) ?_
                  refine lv_aload_n hx hb dX11_act_117 rfl (lv_at hl 2 rfl) ?_
                  refine gf_this_6 hx hb hts hiX11 hown hK hn hH lk0 dX11_act_118 ?_
                  refine gf_tr_2 hx hb hts hiX9 hown hK hn hH lk2 dX11_act_121 ?_
                  refine lv_if_eq (tgt := 132) hx hb dX11_act_124 (by decide) (fun hc26 => ?_) (fun hc26 => ?_)
                  · replace hw := hw.1 hc26
                    refine lv_iload hx hb dX11_act_132 (lv_at hl 0 rfl) ?_
                    refine W.widen (k := 1) (n := 3) (Nat.le_of_ble_eq_true rfl) (Nat.le_of_ble_eq_true rfl) ?_
                    exact g_iret hx hb hr hlocks hK hN hsub hH hw dX11_act_134
                  · replace hw := hw.2 hc26
                    refine lv_bipush (v := -15) hx hb dX11_act_127 (by decide +kernel) ?_
                    refine lv_goto (tgt := 134) hx hb dX11_act_129 (by decide) ?_
                    refine W.widen (k := 1) (n := 3) (Nat.le_of_ble_eq_true rfl) (Nat.le_of_ble_eq_true rfl) ?_
                    exact g_iret hx hb hr hlocks hK hN hsub hH hw dX11_act_134
                · replace hw := hw.2 hc23
                  refine lv_tableOut (tgt := 109) hx hb dX11_act_51 (tb_out3_0 hc15 hc19 hc23) (by decide) ?_
                  refine lv_aload hx hb dX11_act_109 (lv_at hl 0 rfl) ?_
                  refine lv_iload_n hx hb dX11_act_111 rfl (lv_at hl 4 rfl) ?_
                  refine k_afti (va_runV (As := [.int a3]) (rest := []) ⟨hx, hb, hml, hown, hts0⟩ (c_X8_tells_c8 l D kA ly n hn A o12 a3 S13 _) (cwV 1 hts0 (good_pre gX11_act_X8_tells (fun w h => List.mem_append_left _ h) (wz_goodIn (fun w h => List.mem_append_right _ h) (List.mem_append_right _ (List.mem_append_right _ (List.mem_append_right _ (List.mem_append_right _ (List.mem_append_right _ (List.mem_append_right _ (List.mem_append_right _ (List.mem_append_right _ (List.mem_append_right _ (List.mem_append_right _ (List.mem_append_right _ (List.mem_append_right _ (List.mem_append_left _ List.mem_cons_self))))))))))))))) rfl rfl rfl (by decide +kernel) ⟨(Nat.le_of_ble_eq_true rfl), (Nat.le_of_ble_eq_true rfl)⟩) ⟨k_blind, (k_recv hK hH hs14.2.1 (Ec_th hs14) rfl), k_pre hK hN hH hw⟩ rfl rfl hl.1 rfl (lv_room (Nat.le_of_ble_eq_true rfl)) dX11_act_112 ⟨(Nat.le_of_ble_eq_true rfl), (Nat.le_of_ble_eq_true rfl)⟩) hH (fun r28 S27 H locs hw hH => ?_)
                  refine lv_istore (lv' := [(5, .int r28), (4, .ref (ly o12)), (0, .ref (ly 0)), (1, .int a1), (2, .int a2), (3, .int a3)]) hx hb dX11_act_115 hl (by decide) rfl (fun ls hl => ?_)
                  refine lv_aload_n hx hb dX11_act_117 rfl (lv_at hl 2 rfl) ?_
                  refine gf_this_6 hx hb hts hiX11 hown hK hn hH lk0 dX11_act_118 ?_
                  refine gf_tr_2 hx hb hts hiX9 hown hK hn hH lk2 dX11_act_121 ?_
                  refine lv_if_eq (tgt := 132) hx hb dX11_act_124 (by decide) (fun hc29 => ?_) (fun hc29 => ?_)
                  · replace hw := hw.1 hc29
                    refine lv_iload hx hb dX11_act_132 (lv_at hl 0 rfl) ?_
                    refine W.widen (k := 1) (n := 3) (Nat.le_of_ble_eq_true rfl) (Nat.le_of_ble_eq_true rfl) ?_
                    exact g_iret hx hb hr hlocks hK hN hsub hH hw dX11_act_134
                  · replace hw := hw.2 hc29
                    refine lv_bipush (v := -15) hx hb dX11_act_127 (by decide +kernel) ?_
                    refine lv_goto (tgt := 134) hx hb dX11_act_129 (by decide) ?_
                    refine W.widen (k := 1) (n := 3) (Nat.le_of_ble_eq_true rfl) (Nat.le_of_ble_eq_true rfl) ?_
                    exact g_iret hx hb hr hlocks hK hN hsub hH hw dX11_act_134
          · skip
            rcases hw with hw | hw
            · obtain ⟨hs30, hw⟩ := hw
              refine lv_astore (lv' := [(4, .ref (ly o12)), (0, .ref (ly 0)), (1, .int a1), (2, .int a2), (3, .int a3)]) hx hb dX11_act_48 hl (by decide) rfl (fun ls hl => ?_)
              refine lv_iload_n hx hb dX11_act_50 rfl (lv_at hl 3 rfl) ?_
              by_cases hc31 : a2 = 0
              · replace hw := hw.1 hc31
                refine lv_tableIn (tgt := 76) hx hb dX11_act_51 (by rw [hc31]; first | done | decide) (by rw [hc31]; first | done | decide) (by rw [hc31]; first | done | rfl) (by decide) ?_
                refine lv_aload hx hb dX11_act_76 (lv_at hl 0 rfl) ?_
                refine lv_iload_n hx hb dX11_act_78 rfl (lv_at hl 4 rfl) ?_
                refine k_afti (va_runU (As := [.int a3]) (rest := []) ⟨hx, hb, hml, hown, hts0⟩ (c_X8_shows_c7 l D kA ly n hn A o12 a3 S13 _) (va_cwU 1 hts0 (good_pre gX11_act_X8_shows_u255X7 (fun w h => List.mem_append_left _ h) (wz_goodIn (fun w h => List.mem_append_right _ h) (List.mem_append_right _ (List.mem_append_right _ (List.mem_append_right _ (List.mem_append_right _ (List.mem_append_right _ (List.mem_append_right _ (List.mem_append_right _ (List.mem_append_right _ (List.mem_append_right _ (List.mem_append_left _ List.mem_cons_self)))))))))))) rfl rfl rfl rfl (by decide +kernel) ⟨(Nat.le_of_ble_eq_true rfl), (Nat.le_of_ble_eq_true rfl)⟩) ⟨k_blind, (k_recv hK hH hs30.2.1 (Ec_th hs30) rfl), k_pre hK hN hH hw⟩ rfl rfl hl.1 rfl (lv_room (Nat.le_of_ble_eq_true rfl)) dX11_act_79 ⟨(Nat.le_of_ble_eq_true rfl), (Nat.le_of_ble_eq_true rfl)⟩) hH (fun r33 S32 H locs hw hH => ?_)
                refine lv_istore (lv' := [(5, .int r33), (4, .ref (ly o12)), (0, .ref (ly 0)), (1, .int a1), (2, .int a2), (3, .int a3)]) hx hb dX11_act_82 hl (by decide) rfl (fun ls hl => ?_)
                refine lv_goto (tgt := 117) hx hb dX11_act_84 (by decide) ?_
                refine lv_aload_n hx hb dX11_act_117 rfl (lv_at hl 2 rfl) ?_
                refine gf_this_6 hx hb hts hiX11 hown hK hn hH lk0 dX11_act_118 ?_
                refine gf_tr_2 hx hb hts hiX9 hown hK hn hH lk2 dX11_act_121 ?_
                refine lv_if_eq (tgt := 132) hx hb dX11_act_124 (by decide) (fun hc34 => ?_) (fun hc34 => ?_)
                · replace hw := hw.1 hc34
                  refine lv_iload hx hb dX11_act_132 (lv_at hl 0 rfl) ?_
                  refine W.widen (k := 1) (n := 3) (Nat.le_of_ble_eq_true rfl) (Nat.le_of_ble_eq_true rfl) ?_
                  exact g_iret hx hb hr hlocks hK hN hsub hH hw dX11_act_134
                · replace hw := hw.2 hc34
                  refine lv_bipush (v := -15) hx hb dX11_act_127 (by decide +kernel) ?_
                  refine lv_goto (tgt := 134) hx hb dX11_act_129 (by decide) ?_
                  refine W.widen (k := 1) (n := 3) (Nat.le_of_ble_eq_true rfl) (Nat.le_of_ble_eq_true rfl) ?_
                  exact g_iret hx hb hr hlocks hK hN hsub hH hw dX11_act_134
              · replace hw := hw.2 hc31
                by_cases hc35 : a2 = 1
                · replace hw := hw.1 hc35
                  refine lv_tableIn (tgt := 87) hx hb dX11_act_51 (by rw [hc35]; first | done | decide) (by rw [hc35]; first | done | decide) (by rw [hc35]; first | done | rfl) (by decide) ?_
                  refine lv_aload hx hb dX11_act_87 (lv_at hl 0 rfl) ?_
                  refine lv_iload_n hx hb dX11_act_89 rfl (lv_at hl 4 rfl) ?_
                  refine k_afti (va_runU (As := [.int a3]) (rest := []) ⟨hx, hb, hml, hown, hts0⟩ (c_X7_moves_c7 l D kA ly n hn A o12 a3 S13 _) (va_cwO 1 hts0 (good_pre gX11_act_X7_moves_u260X7 (fun w h => List.mem_append_left _ h) (wz_goodIn (fun w h => List.mem_append_right _ h) (List.mem_append_right _ (List.mem_append_right _ (List.mem_append_right _ (List.mem_append_right _ (List.mem_append_right _ (List.mem_append_right _ (List.mem_append_right _ (List.mem_append_right _ (List.mem_append_left _ List.mem_cons_self))))))))))) rfl rfl rfl (show Cond.code yX8_moves cX8_moves 2 (some .int) ∈ _ from (List.mem_append_right _ (List.mem_append_right _ (List.mem_append_right _ (List.mem_append_right _ (List.mem_append_right _ (List.mem_append_right _ (List.mem_append_right _ (List.mem_append_right _ (List.mem_append_right _ (List.mem_append_right _ (List.mem_append_right _ (List.mem_append_right _ (List.mem_append_left _ List.mem_cons_self)))))))))))))) (by decide +kernel) ⟨(Nat.le_of_ble_eq_true rfl), (Nat.le_of_ble_eq_true rfl)⟩) ⟨k_blind, (k_recv hK hH hs30.2.1 (Ec_th hs30) rfl), k_pre hK hN hH hw⟩ rfl rfl hl.1 rfl (lv_room (Nat.le_of_ble_eq_true rfl)) dX11_act_90 ⟨(Nat.le_of_ble_eq_true rfl), (Nat.le_of_ble_eq_true rfl)⟩) hH (fun r37 S36 H locs hw hH => ?_)
                  refine lv_istore (lv' := [(5, .int r37), (4, .ref (ly o12)), (0, .ref (ly 0)), (1, .int a1), (2, .int a2), (3, .int a3)]) hx hb dX11_act_93 hl (by decide) rfl (fun ls hl => ?_)
                  refine lv_goto (tgt := 117) hx hb dX11_act_95 (by decide) ?_
                  refine lv_aload_n hx hb dX11_act_117 rfl (lv_at hl 2 rfl) ?_
                  refine gf_this_6 hx hb hts hiX11 hown hK hn hH lk0 dX11_act_118 ?_
                  refine gf_tr_2 hx hb hts hiX9 hown hK hn hH lk2 dX11_act_121 ?_
                  refine lv_if_eq (tgt := 132) hx hb dX11_act_124 (by decide) (fun hc38 => ?_) (fun hc38 => ?_)
                  · replace hw := hw.1 hc38
                    refine lv_iload hx hb dX11_act_132 (lv_at hl 0 rfl) ?_
                    refine W.widen (k := 1) (n := 3) (Nat.le_of_ble_eq_true rfl) (Nat.le_of_ble_eq_true rfl) ?_
                    exact g_iret hx hb hr hlocks hK hN hsub hH hw dX11_act_134
                  · replace hw := hw.2 hc38
                    refine lv_bipush (v := -15) hx hb dX11_act_127 (by decide +kernel) ?_
                    refine lv_goto (tgt := 134) hx hb dX11_act_129 (by decide) ?_
                    refine W.widen (k := 1) (n := 3) (Nat.le_of_ble_eq_true rfl) (Nat.le_of_ble_eq_true rfl) ?_
                    exact g_iret hx hb hr hlocks hK hN hsub hH hw dX11_act_134
                · replace hw := hw.2 hc35
                  by_cases hc39 : a2 = 2
                  · replace hw := hw.1 hc39
                    refine lv_tableIn (tgt := 98) hx hb dX11_act_51 (by rw [hc39]; first | done | decide) (by rw [hc39]; first | done | decide) (by rw [hc39]; first | done | rfl) (by decide) ?_
                    refine lv_aload hx hb dX11_act_98 (lv_at hl 0 rfl) ?_
                    refine lv_iload_n hx hb dX11_act_100 rfl (lv_at hl 4 rfl) ?_
                    refine k_afti (va_runU (As := [.int a3]) (rest := []) ⟨hx, hb, hml, hown, hts0⟩ (c_X8_shares_c7 l D kA ly n hn A o12 a3 S13 _) (va_cwU 1 hts0 (good_pre gX11_act_X8_shares_u263X7 (fun w h => List.mem_append_left _ h) (wz_goodIn (fun w h => List.mem_append_right _ h) (List.mem_append_right _ (List.mem_append_right _ (List.mem_append_right _ (List.mem_append_right _ (List.mem_append_right _ (List.mem_append_right _ (List.mem_append_right _ (List.mem_append_right _ (List.mem_append_right _ (List.mem_append_right _ (List.mem_append_right _ (List.mem_append_left _ List.mem_cons_self)))))))))))))) rfl rfl rfl rfl (by decide +kernel) ⟨(Nat.le_of_ble_eq_true rfl), (Nat.le_of_ble_eq_true rfl)⟩) ⟨k_blind, (k_recv hK hH hs30.2.1 (Ec_th hs30) rfl), k_pre hK hN hH hw⟩ rfl rfl hl.1 rfl (lv_room (Nat.le_of_ble_eq_true rfl)) dX11_act_101 ⟨(Nat.le_of_ble_eq_true rfl), (Nat.le_of_ble_eq_true rfl)⟩) hH (fun r41 S40 H locs hw hH => ?_)
                    refine lv_istore (lv' := [(5, .int r41), (4, .ref (ly o12)), (0, .ref (ly 0)), (1, .int a1), (2, .int a2), (3, .int a3)]) hx hb dX11_act_104 hl (by decide) rfl (fun ls hl => ?_)
                    refine lv_goto (tgt := 117) hx hb dX11_act_106 (by decide) ?_
                    refine lv_aload_n hx hb dX11_act_117 rfl (lv_at hl 2 rfl) ?_
                    refine gf_this_6 hx hb hts hiX11 hown hK hn hH lk0 dX11_act_118 ?_
                    refine gf_tr_2 hx hb hts hiX9 hown hK hn hH lk2 dX11_act_121 ?_
                    refine lv_if_eq (tgt := 132) hx hb dX11_act_124 (by decide) (fun hc42 => ?_) (fun hc42 => ?_)
                    · replace hw := hw.1 hc42
                      refine lv_iload hx hb dX11_act_132 (lv_at hl 0 rfl) ?_
                      refine W.widen (k := 1) (n := 3) (Nat.le_of_ble_eq_true rfl) (Nat.le_of_ble_eq_true rfl) ?_
                      exact g_iret hx hb hr hlocks hK hN hsub hH hw dX11_act_134
                    · replace hw := hw.2 hc42
                      refine lv_bipush (v := -15) hx hb dX11_act_127 (by decide +kernel) ?_
                      refine lv_goto (tgt := 134) hx hb dX11_act_129 (by decide) ?_
                      refine W.widen (k := 1) (n := 3) (Nat.le_of_ble_eq_true rfl) (Nat.le_of_ble_eq_true rfl) ?_
                      exact g_iret hx hb hr hlocks hK hN hsub hH hw dX11_act_134
                  · replace hw := hw.2 hc39
                    refine lv_tableOut (tgt := 109) hx hb dX11_act_51 (tb_out3_0 hc31 hc35 hc39) (by decide) ?_
                    refine lv_aload hx hb dX11_act_109 (lv_at hl 0 rfl) ?_
                    refine lv_iload_n hx hb dX11_act_111 rfl (lv_at hl 4 rfl) ?_
                    refine k_afti (va_runU (As := [.int a3]) (rest := []) ⟨hx, hb, hml, hown, hts0⟩ (c_X8_tells_c7 l D kA ly n hn A o12 a3 S13 _) (va_cwU 1 hts0 (good_pre gX11_act_X8_tells_u266X7 (fun w h => List.mem_append_left _ h) (wz_goodIn (fun w h => List.mem_append_right _ h) (List.mem_append_right _ (List.mem_append_right _ (List.mem_append_right _ (List.mem_append_right _ (List.mem_append_right _ (List.mem_append_right _ (List.mem_append_right _ (List.mem_append_right _ (List.mem_append_right _ (List.mem_append_right _ (List.mem_append_right _ (List.mem_append_right _ (List.mem_append_left _ List.mem_cons_self))))))))))))))) rfl rfl rfl rfl (by decide +kernel) ⟨(Nat.le_of_ble_eq_true rfl), (Nat.le_of_ble_eq_true rfl)⟩) ⟨k_blind, (k_recv hK hH hs30.2.1 (Ec_th hs30) rfl), k_pre hK hN hH hw⟩ rfl rfl hl.1 rfl (lv_room (Nat.le_of_ble_eq_true rfl)) dX11_act_112 ⟨(Nat.le_of_ble_eq_true rfl), (Nat.le_of_ble_eq_true rfl)⟩) hH (fun r44 S43 H locs hw hH => ?_)
                    refine lv_istore (lv' := [(5, .int r44), (4, .ref (ly o12)), (0, .ref (ly 0)), (1, .int a1), (2, .int a2), (3, .int a3)]) hx hb dX11_act_115 hl (by decide) rfl (fun ls hl => ?_)
                    refine lv_aload_n hx hb dX11_act_117 rfl (lv_at hl 2 rfl) ?_
                    refine gf_this_6 hx hb hts hiX11 hown hK hn hH lk0 dX11_act_118 ?_
                    refine gf_tr_2 hx hb hts hiX9 hown hK hn hH lk2 dX11_act_121 ?_
                    refine lv_if_eq (tgt := 132) hx hb dX11_act_124 (by decide) (fun hc45 => ?_) (fun hc45 => ?_)
                    · replace hw := hw.1 hc45
                      refine lv_iload hx hb dX11_act_132 (lv_at hl 0 rfl) ?_
                      refine W.widen (k := 1) (n := 3) (Nat.le_of_ble_eq_true rfl) (Nat.le_of_ble_eq_true rfl) ?_
                      exact g_iret hx hb hr hlocks hK hN hsub hH hw dX11_act_134
                    · replace hw := hw.2 hc45
                      refine lv_bipush (v := -15) hx hb dX11_act_127 (by decide +kernel) ?_
                      refine lv_goto (tgt := 134) hx hb dX11_act_129 (by decide) ?_
                      refine W.widen (k := 1) (n := 3) (Nat.le_of_ble_eq_true rfl) (Nat.le_of_ble_eq_true rfl) ?_
                      exact g_iret hx hb hr hlocks hK hN hsub hH hw dX11_act_134
            · skip
              rcases hw with hw | hw
              · obtain ⟨hs46, hw⟩ := hw
                refine lv_astore (lv' := [(4, .ref (ly o12)), (0, .ref (ly 0)), (1, .int a1), (2, .int a2), (3, .int a3)]) hx hb dX11_act_48 hl (by decide) rfl (fun ls hl => ?_)
                refine lv_iload_n hx hb dX11_act_50 rfl (lv_at hl 3 rfl) ?_
                by_cases hc47 : a2 = 0
                · replace hw := hw.1 hc47
                  refine lv_tableIn (tgt := 76) hx hb dX11_act_51 (by rw [hc47]; first | done | decide) (by rw [hc47]; first | done | decide) (by rw [hc47]; first | done | rfl) (by decide) ?_
                  refine lv_aload hx hb dX11_act_76 (lv_at hl 0 rfl) ?_
                  refine lv_iload_n hx hb dX11_act_78 rfl (lv_at hl 4 rfl) ?_
                  refine k_afti (va_runU (As := [.int a3]) (rest := []) ⟨hx, hb, hml, hown, hts0⟩ (c_X1_shows_c1 l D kA ly n hn A o12 a3 S13 _) (va_cwO 1 hts0 (good_pre gX11_act_X1_shows_u255X1 (fun w h => List.mem_append_left _ h) (wz_goodIn (fun w h => List.mem_append_right _ h) (List.mem_append_right _ (List.mem_append_right _ (List.mem_append_right _ (List.mem_append_left _ List.mem_cons_self)))))) rfl rfl rfl (show Cond.code yX8_shows cX8_shows 2 (some .int) ∈ _ from (List.mem_append_right _ (List.mem_append_right _ (List.mem_append_right _ (List.mem_append_right _ (List.mem_append_right _ (List.mem_append_right _ (List.mem_append_right _ (List.mem_append_right _ (List.mem_append_right _ (List.mem_append_right _ (List.mem_append_right _ (List.mem_append_left _ List.mem_cons_self))))))))))))) (by decide +kernel) ⟨(Nat.le_of_ble_eq_true rfl), (Nat.le_of_ble_eq_true rfl)⟩) ⟨k_blind, (k_recv hK hH hs46.2.1 (Ec_th hs46) rfl), k_pre hK hN hH hw⟩ rfl rfl hl.1 rfl (lv_room (Nat.le_of_ble_eq_true rfl)) dX11_act_79 ⟨(Nat.le_of_ble_eq_true rfl), (Nat.le_of_ble_eq_true rfl)⟩) hH (fun r49 S48 H locs hw hH => ?_)
                  refine lv_istore (lv' := [(5, .int r49), (4, .ref (ly o12)), (0, .ref (ly 0)), (1, .int a1), (2, .int a2), (3, .int a3)]) hx hb dX11_act_82 hl (by decide) rfl (fun ls hl => ?_)
                  refine lv_goto (tgt := 117) hx hb dX11_act_84 (by decide) ?_
                  refine lv_aload_n hx hb dX11_act_117 rfl (lv_at hl 2 rfl) ?_
                  refine gf_this_6 hx hb hts hiX11 hown hK hn hH lk0 dX11_act_118 ?_
                  refine gf_tr_2 hx hb hts hiX9 hown hK hn hH lk2 dX11_act_121 ?_
                  refine lv_if_eq (tgt := 132) hx hb dX11_act_124 (by decide) (fun hc50 => ?_) (fun hc50 => ?_)
                  · replace hw := hw.1 hc50
                    refine lv_iload hx hb dX11_act_132 (lv_at hl 0 rfl) ?_
                    refine W.widen (k := 1) (n := 3) (Nat.le_of_ble_eq_true rfl) (Nat.le_of_ble_eq_true rfl) ?_
                    exact g_iret hx hb hr hlocks hK hN hsub hH hw dX11_act_134
                  · replace hw := hw.2 hc50
                    refine lv_bipush (v := -15) hx hb dX11_act_127 (by decide +kernel) ?_
                    refine lv_goto (tgt := 134) hx hb dX11_act_129 (by decide) ?_
                    refine W.widen (k := 1) (n := 3) (Nat.le_of_ble_eq_true rfl) (Nat.le_of_ble_eq_true rfl) ?_
                    exact g_iret hx hb hr hlocks hK hN hsub hH hw dX11_act_134
                · replace hw := hw.2 hc47
                  by_cases hc51 : a2 = 1
                  · replace hw := hw.1 hc51
                    refine lv_tableIn (tgt := 87) hx hb dX11_act_51 (by rw [hc51]; first | done | decide) (by rw [hc51]; first | done | decide) (by rw [hc51]; first | done | rfl) (by decide) ?_
                    refine lv_aload hx hb dX11_act_87 (lv_at hl 0 rfl) ?_
                    refine lv_iload_n hx hb dX11_act_89 rfl (lv_at hl 4 rfl) ?_
                    refine k_afti (va_runU (As := [.int a3]) (rest := []) ⟨hx, hb, hml, hown, hts0⟩ (c_X7_moves_c1 l D kA ly n hn A o12 a3 S13 _) (va_cwO 1 hts0 (good_pre gX11_act_X7_moves_u260X1 (fun w h => List.mem_append_left _ h) (wz_goodIn (fun w h => List.mem_append_right _ h) (List.mem_append_right _ (List.mem_append_right _ (List.mem_append_right _ (List.mem_append_right _ (List.mem_append_right _ (List.mem_append_right _ (List.mem_append_right _ (List.mem_append_right _ (List.mem_append_left _ List.mem_cons_self))))))))))) rfl rfl rfl (show Cond.code yX8_moves cX8_moves 2 (some .int) ∈ _ from (List.mem_append_right _ (List.mem_append_right _ (List.mem_append_right _ (List.mem_append_right _ (List.mem_append_right _ (List.mem_append_right _ (List.mem_append_right _ (List.mem_append_right _ (List.mem_append_right _ (List.mem_append_right _ (List.mem_append_right _ (List.mem_append_right _ (List.mem_append_left _ List.mem_cons_self)))))))))))))) (by decide +kernel) ⟨(Nat.le_of_ble_eq_true rfl), (Nat.le_of_ble_eq_true rfl)⟩) ⟨k_blind, (k_recv hK hH hs46.2.1 (Ec_th hs46) rfl), k_pre hK hN hH hw⟩ rfl rfl hl.1 rfl (lv_room (Nat.le_of_ble_eq_true rfl)) dX11_act_90 ⟨(Nat.le_of_ble_eq_true rfl), (Nat.le_of_ble_eq_true rfl)⟩) hH (fun r53 S52 H locs hw hH => ?_)
                    refine lv_istore (lv' := [(5, .int r53), (4, .ref (ly o12)), (0, .ref (ly 0)), (1, .int a1), (2, .int a2), (3, .int a3)]) hx hb dX11_act_93 hl (by decide) rfl (fun ls hl => ?_)
                    refine lv_goto (tgt := 117) hx hb dX11_act_95 (by decide) ?_
                    refine lv_aload_n hx hb dX11_act_117 rfl (lv_at hl 2 rfl) ?_
                    refine gf_this_6 hx hb hts hiX11 hown hK hn hH lk0 dX11_act_118 ?_
                    refine gf_tr_2 hx hb hts hiX9 hown hK hn hH lk2 dX11_act_121 ?_
                    refine lv_if_eq (tgt := 132) hx hb dX11_act_124 (by decide) (fun hc54 => ?_) (fun hc54 => ?_)
                    · replace hw := hw.1 hc54
                      refine lv_iload hx hb dX11_act_132 (lv_at hl 0 rfl) ?_
                      refine W.widen (k := 1) (n := 3) (Nat.le_of_ble_eq_true rfl) (Nat.le_of_ble_eq_true rfl) ?_
                      exact g_iret hx hb hr hlocks hK hN hsub hH hw dX11_act_134
                    · replace hw := hw.2 hc54
                      refine lv_bipush (v := -15) hx hb dX11_act_127 (by decide +kernel) ?_
                      refine lv_goto (tgt := 134) hx hb dX11_act_129 (by decide) ?_
                      refine W.widen (k := 1) (n := 3) (Nat.le_of_ble_eq_true rfl) (Nat.le_of_ble_eq_true rfl) ?_
                      exact g_iret hx hb hr hlocks hK hN hsub hH hw dX11_act_134
                  · replace hw := hw.2 hc51
                    by_cases hc55 : a2 = 2
                    · replace hw := hw.1 hc55
                      refine lv_tableIn (tgt := 98) hx hb dX11_act_51 (by rw [hc55]; first | done | decide) (by rw [hc55]; first | done | decide) (by rw [hc55]; first | done | rfl) (by decide) ?_
                      refine lv_aload hx hb dX11_act_98 (lv_at hl 0 rfl) ?_
                      refine lv_iload_n hx hb dX11_act_100 rfl (lv_at hl 4 rfl) ?_
                      refine k_afti (va_runU (As := [.int a3]) (rest := []) ⟨hx, hb, hml, hown, hts0⟩ (c_X1_shares_c1 l D kA ly n hn A o12 a3 S13 _) (va_cwO 1 hts0 (good_pre gX11_act_X1_shares_u263X1 (fun w h => List.mem_append_left _ h) (wz_goodIn (fun w h => List.mem_append_right _ h) (List.mem_append_right _ (List.mem_append_right _ (List.mem_append_left _ List.mem_cons_self))))) rfl rfl rfl (show Cond.code yX8_shares cX8_shares 2 (some .int) ∈ _ from (List.mem_append_right _ (List.mem_append_right _ (List.mem_append_right _ (List.mem_append_right _ (List.mem_append_right _ (List.mem_append_right _ (List.mem_append_right _ (List.mem_append_right _ (List.mem_append_right _ (List.mem_append_right _ (List.mem_append_right _ (List.mem_append_right _ (List.mem_append_right _ (List.mem_append_left _ List.mem_cons_self))))))))))))))) (by decide +kernel) ⟨(Nat.le_of_ble_eq_true rfl), (Nat.le_of_ble_eq_true rfl)⟩) ⟨k_blind, (k_recv hK hH hs46.2.1 (Ec_th hs46) rfl), k_pre hK hN hH hw⟩ rfl rfl hl.1 rfl (lv_room (Nat.le_of_ble_eq_true rfl)) dX11_act_101 ⟨(Nat.le_of_ble_eq_true rfl), (Nat.le_of_ble_eq_true rfl)⟩) hH (fun r57 S56 H locs hw hH => ?_)
                      refine lv_istore (lv' := [(5, .int r57), (4, .ref (ly o12)), (0, .ref (ly 0)), (1, .int a1), (2, .int a2), (3, .int a3)]) hx hb dX11_act_104 hl (by decide) rfl (fun ls hl => ?_)
                      refine lv_goto (tgt := 117) hx hb dX11_act_106 (by decide) ?_
                      refine lv_aload_n hx hb dX11_act_117 rfl (lv_at hl 2 rfl) ?_
                      refine gf_this_6 hx hb hts hiX11 hown hK hn hH lk0 dX11_act_118 ?_
                      refine gf_tr_2 hx hb hts hiX9 hown hK hn hH lk2 dX11_act_121 ?_
                      refine lv_if_eq (tgt := 132) hx hb dX11_act_124 (by decide) (fun hc58 => ?_) (fun hc58 => ?_)
                      · replace hw := hw.1 hc58
                        refine lv_iload hx hb dX11_act_132 (lv_at hl 0 rfl) ?_
                        refine W.widen (k := 1) (n := 3) (Nat.le_of_ble_eq_true rfl) (Nat.le_of_ble_eq_true rfl) ?_
                        exact g_iret hx hb hr hlocks hK hN hsub hH hw dX11_act_134
                      · replace hw := hw.2 hc58
                        refine lv_bipush (v := -15) hx hb dX11_act_127 (by decide +kernel) ?_
                        refine lv_goto (tgt := 134) hx hb dX11_act_129 (by decide) ?_
                        refine W.widen (k := 1) (n := 3) (Nat.le_of_ble_eq_true rfl) (Nat.le_of_ble_eq_true rfl) ?_
                        exact g_iret hx hb hr hlocks hK hN hsub hH hw dX11_act_134
                    · replace hw := hw.2 hc55
                      refine lv_tableOut (tgt := 109) hx hb dX11_act_51 (tb_out3_0 hc47 hc51 hc55) (by decide) ?_
                      refine lv_aload hx hb dX11_act_109 (lv_at hl 0 rfl) ?_
                      refine lv_iload_n hx hb dX11_act_111 rfl (lv_at hl 4 rfl) ?_
                      refine k_afti (va_runU (As := [.int a3]) (rest := []) ⟨hx, hb, hml, hown, hts0⟩ (c_X8_tells_c1 l D kA ly n hn A o12 a3 S13 _) (va_cwU 1 hts0 (good_pre gX11_act_X8_tells_u266X1 (fun w h => List.mem_append_left _ h) (wz_goodIn (fun w h => List.mem_append_right _ h) (List.mem_append_right _ (List.mem_append_right _ (List.mem_append_right _ (List.mem_append_right _ (List.mem_append_right _ (List.mem_append_right _ (List.mem_append_right _ (List.mem_append_right _ (List.mem_append_right _ (List.mem_append_right _ (List.mem_append_right _ (List.mem_append_right _ (List.mem_append_left _ List.mem_cons_self))))))))))))))) rfl rfl rfl rfl (by decide +kernel) ⟨(Nat.le_of_ble_eq_true rfl), (Nat.le_of_ble_eq_true rfl)⟩) ⟨k_blind, (k_recv hK hH hs46.2.1 (Ec_th hs46) rfl), k_pre hK hN hH hw⟩ rfl rfl hl.1 rfl (lv_room (Nat.le_of_ble_eq_true rfl)) dX11_act_112 ⟨(Nat.le_of_ble_eq_true rfl), (Nat.le_of_ble_eq_true rfl)⟩) hH (fun r60 S59 H locs hw hH => ?_)
                      refine lv_istore (lv' := [(5, .int r60), (4, .ref (ly o12)), (0, .ref (ly 0)), (1, .int a1), (2, .int a2), (3, .int a3)]) hx hb dX11_act_115 hl (by decide) rfl (fun ls hl => ?_)
                      refine lv_aload_n hx hb dX11_act_117 rfl (lv_at hl 2 rfl) ?_
                      refine gf_this_6 hx hb hts hiX11 hown hK hn hH lk0 dX11_act_118 ?_
                      refine gf_tr_2 hx hb hts hiX9 hown hK hn hH lk2 dX11_act_121 ?_
                      refine lv_if_eq (tgt := 132) hx hb dX11_act_124 (by decide) (fun hc61 => ?_) (fun hc61 => ?_)
                      · replace hw := hw.1 hc61
                        refine lv_iload hx hb dX11_act_132 (lv_at hl 0 rfl) ?_
                        refine W.widen (k := 1) (n := 3) (Nat.le_of_ble_eq_true rfl) (Nat.le_of_ble_eq_true rfl) ?_
                        exact g_iret hx hb hr hlocks hK hN hsub hH hw dX11_act_134
                      · replace hw := hw.2 hc61
                        refine lv_bipush (v := -15) hx hb dX11_act_127 (by decide +kernel) ?_
                        refine lv_goto (tgt := 134) hx hb dX11_act_129 (by decide) ?_
                        refine W.widen (k := 1) (n := 3) (Nat.le_of_ble_eq_true rfl) (Nat.le_of_ble_eq_true rfl) ?_
                        exact g_iret hx hb hr hlocks hK hN hsub hH hw dX11_act_134
              · skip
                rcases hw with hw | hw
                · obtain ⟨hs62, hw⟩ := hw
                  refine lv_astore (lv' := [(4, .ref (ly o12)), (0, .ref (ly 0)), (1, .int a1), (2, .int a2), (3, .int a3)]) hx hb dX11_act_48 hl (by decide) rfl (fun ls hl => ?_)
                  refine lv_iload_n hx hb dX11_act_50 rfl (lv_at hl 3 rfl) ?_
                  by_cases hc63 : a2 = 0
                  · replace hw := hw.1 hc63
                    refine lv_tableIn (tgt := 76) hx hb dX11_act_51 (by rw [hc63]; first | done | decide) (by rw [hc63]; first | done | decide) (by rw [hc63]; first | done | rfl) (by decide) ?_
                    refine lv_aload hx hb dX11_act_76 (lv_at hl 0 rfl) ?_
                    refine lv_iload_n hx hb dX11_act_78 rfl (lv_at hl 4 rfl) ?_
                    refine k_afti (va_runU (As := [.int a3]) (rest := []) ⟨hx, hb, hml, hown, hts0⟩ (c_X0_shows_c0 l D kA ly n hn A o12 a3 S13 _) (va_cwO 1 hts0 (good_pre gX11_act_X0_shows_u255X0 (fun w h => List.mem_append_left _ h) (wz_goodIn (fun w h => List.mem_append_right _ h) (List.mem_append_left _ List.mem_cons_self))) rfl rfl rfl (show Cond.code yX8_shows cX8_shows 2 (some .int) ∈ _ from (List.mem_append_right _ (List.mem_append_right _ (List.mem_append_right _ (List.mem_append_right _ (List.mem_append_right _ (List.mem_append_right _ (List.mem_append_right _ (List.mem_append_right _ (List.mem_append_right _ (List.mem_append_right _ (List.mem_append_right _ (List.mem_append_left _ List.mem_cons_self))))))))))))) (by decide +kernel) ⟨(Nat.le_of_ble_eq_true rfl), (Nat.le_of_ble_eq_true rfl)⟩) ⟨k_blind, (k_recv hK hH hs62.2.1 (Ec_th hs62) rfl), k_pre hK hN hH hw⟩ rfl rfl hl.1 rfl (lv_room (Nat.le_of_ble_eq_true rfl)) dX11_act_79 ⟨(Nat.le_of_ble_eq_true rfl), (Nat.le_of_ble_eq_true rfl)⟩) hH (fun r65 S64 H locs hw hH => ?_)
                    refine lv_istore (lv' := [(5, .int r65), (4, .ref (ly o12)), (0, .ref (ly 0)), (1, .int a1), (2, .int a2), (3, .int a3)]) hx hb dX11_act_82 hl (by decide) rfl (fun ls hl => ?_)
                    refine lv_goto (tgt := 117) hx hb dX11_act_84 (by decide) ?_
                    refine lv_aload_n hx hb dX11_act_117 rfl (lv_at hl 2 rfl) ?_
                    refine gf_this_6 hx hb hts hiX11 hown hK hn hH lk0 dX11_act_118 ?_
                    refine gf_tr_2 hx hb hts hiX9 hown hK hn hH lk2 dX11_act_121 ?_
                    refine lv_if_eq (tgt := 132) hx hb dX11_act_124 (by decide) (fun hc66 => ?_) (fun hc66 => ?_)
                    · replace hw := hw.1 hc66
                      refine lv_iload hx hb dX11_act_132 (lv_at hl 0 rfl) ?_
                      refine W.widen (k := 1) (n := 3) (Nat.le_of_ble_eq_true rfl) (Nat.le_of_ble_eq_true rfl) ?_
                      exact g_iret hx hb hr hlocks hK hN hsub hH hw dX11_act_134
                    · replace hw := hw.2 hc66
                      refine lv_bipush (v := -15) hx hb dX11_act_127 (by decide +kernel) ?_
                      refine lv_goto (tgt := 134) hx hb dX11_act_129 (by decide) ?_
                      refine W.widen (k := 1) (n := 3) (Nat.le_of_ble_eq_true rfl) (Nat.le_of_ble_eq_true rfl) ?_
                      exact g_iret hx hb hr hlocks hK hN hsub hH hw dX11_act_134
                  · replace hw := hw.2 hc63
                    by_cases hc67 : a2 = 1
                    · replace hw := hw.1 hc67
                      refine lv_tableIn (tgt := 87) hx hb dX11_act_51 (by rw [hc67]; first | done | decide) (by rw [hc67]; first | done | decide) (by rw [hc67]; first | done | rfl) (by decide) ?_
                      refine lv_aload hx hb dX11_act_87 (lv_at hl 0 rfl) ?_
                      refine lv_iload_n hx hb dX11_act_89 rfl (lv_at hl 4 rfl) ?_
                      refine k_afti (va_runU (As := [.int a3]) (rest := []) ⟨hx, hb, hml, hown, hts0⟩ (c_X8_moves_c0 l D kA ly n hn A o12 a3 S13 _) (va_cwU 1 hts0 (good_pre gX11_act_X8_moves_u260X0 (fun w h => List.mem_append_left _ h) (wz_goodIn (fun w h => List.mem_append_right _ h) (List.mem_append_right _ (List.mem_append_right _ (List.mem_append_right _ (List.mem_append_right _ (List.mem_append_right _ (List.mem_append_right _ (List.mem_append_right _ (List.mem_append_right _ (List.mem_append_right _ (List.mem_append_right _ (List.mem_append_left _ List.mem_cons_self))))))))))))) rfl rfl rfl rfl (by decide +kernel) ⟨(Nat.le_of_ble_eq_true rfl), (Nat.le_of_ble_eq_true rfl)⟩) ⟨k_blind, (k_recv hK hH hs62.2.1 (Ec_th hs62) rfl), k_pre hK hN hH hw⟩ rfl rfl hl.1 rfl (lv_room (Nat.le_of_ble_eq_true rfl)) dX11_act_90 ⟨(Nat.le_of_ble_eq_true rfl), (Nat.le_of_ble_eq_true rfl)⟩) hH (fun r69 S68 H locs hw hH => ?_)
                      refine lv_istore (lv' := [(5, .int r69), (4, .ref (ly o12)), (0, .ref (ly 0)), (1, .int a1), (2, .int a2), (3, .int a3)]) hx hb dX11_act_93 hl (by decide) rfl (fun ls hl => ?_)
                      refine lv_goto (tgt := 117) hx hb dX11_act_95 (by decide) ?_
                      refine lv_aload_n hx hb dX11_act_117 rfl (lv_at hl 2 rfl) ?_
                      refine gf_this_6 hx hb hts hiX11 hown hK hn hH lk0 dX11_act_118 ?_
                      refine gf_tr_2 hx hb hts hiX9 hown hK hn hH lk2 dX11_act_121 ?_
                      refine lv_if_eq (tgt := 132) hx hb dX11_act_124 (by decide) (fun hc70 => ?_) (fun hc70 => ?_)
                      · replace hw := hw.1 hc70
                        refine lv_iload hx hb dX11_act_132 (lv_at hl 0 rfl) ?_
                        refine W.widen (k := 1) (n := 3) (Nat.le_of_ble_eq_true rfl) (Nat.le_of_ble_eq_true rfl) ?_
                        exact g_iret hx hb hr hlocks hK hN hsub hH hw dX11_act_134
                      · replace hw := hw.2 hc70
                        refine lv_bipush (v := -15) hx hb dX11_act_127 (by decide +kernel) ?_
                        refine lv_goto (tgt := 134) hx hb dX11_act_129 (by decide) ?_
                        refine W.widen (k := 1) (n := 3) (Nat.le_of_ble_eq_true rfl) (Nat.le_of_ble_eq_true rfl) ?_
                        exact g_iret hx hb hr hlocks hK hN hsub hH hw dX11_act_134
                    · replace hw := hw.2 hc67
                      by_cases hc71 : a2 = 2
                      · replace hw := hw.1 hc71
                        refine lv_tableIn (tgt := 98) hx hb dX11_act_51 (by rw [hc71]; first | done | decide) (by rw [hc71]; first | done | decide) (by rw [hc71]; first | done | rfl) (by decide) ?_
                        refine lv_aload hx hb dX11_act_98 (lv_at hl 0 rfl) ?_
                        refine lv_iload_n hx hb dX11_act_100 rfl (lv_at hl 4 rfl) ?_
                        refine k_afti (va_runU (As := [.int a3]) (rest := []) ⟨hx, hb, hml, hown, hts0⟩ (c_X8_shares_c0 l D kA ly n hn A o12 a3 S13 _) (va_cwU 1 hts0 (good_pre gX11_act_X8_shares_u263X0 (fun w h => List.mem_append_left _ h) (wz_goodIn (fun w h => List.mem_append_right _ h) (List.mem_append_right _ (List.mem_append_right _ (List.mem_append_right _ (List.mem_append_right _ (List.mem_append_right _ (List.mem_append_right _ (List.mem_append_right _ (List.mem_append_right _ (List.mem_append_right _ (List.mem_append_right _ (List.mem_append_right _ (List.mem_append_left _ List.mem_cons_self)))))))))))))) rfl rfl rfl rfl (by decide +kernel) ⟨(Nat.le_of_ble_eq_true rfl), (Nat.le_of_ble_eq_true rfl)⟩) ⟨k_blind, (k_recv hK hH hs62.2.1 (Ec_th hs62) rfl), k_pre hK hN hH hw⟩ rfl rfl hl.1 rfl (lv_room (Nat.le_of_ble_eq_true rfl)) dX11_act_101 ⟨(Nat.le_of_ble_eq_true rfl), (Nat.le_of_ble_eq_true rfl)⟩) hH (fun r73 S72 H locs hw hH => ?_)
                        refine lv_istore (lv' := [(5, .int r73), (4, .ref (ly o12)), (0, .ref (ly 0)), (1, .int a1), (2, .int a2), (3, .int a3)]) hx hb dX11_act_104 hl (by decide) rfl (fun ls hl => ?_)
                        refine lv_goto (tgt := 117) hx hb dX11_act_106 (by decide) ?_
                        refine lv_aload_n hx hb dX11_act_117 rfl (lv_at hl 2 rfl) ?_
                        refine gf_this_6 hx hb hts hiX11 hown hK hn hH lk0 dX11_act_118 ?_
                        refine gf_tr_2 hx hb hts hiX9 hown hK hn hH lk2 dX11_act_121 ?_
                        refine lv_if_eq (tgt := 132) hx hb dX11_act_124 (by decide) (fun hc74 => ?_) (fun hc74 => ?_)
                        · replace hw := hw.1 hc74
                          refine lv_iload hx hb dX11_act_132 (lv_at hl 0 rfl) ?_
                          refine W.widen (k := 1) (n := 3) (Nat.le_of_ble_eq_true rfl) (Nat.le_of_ble_eq_true rfl) ?_
                          exact g_iret hx hb hr hlocks hK hN hsub hH hw dX11_act_134
                        · replace hw := hw.2 hc74
                          refine lv_bipush (v := -15) hx hb dX11_act_127 (by decide +kernel) ?_
                          refine lv_goto (tgt := 134) hx hb dX11_act_129 (by decide) ?_
                          refine W.widen (k := 1) (n := 3) (Nat.le_of_ble_eq_true rfl) (Nat.le_of_ble_eq_true rfl) ?_
                          exact g_iret hx hb hr hlocks hK hN hsub hH hw dX11_act_134
                      · replace hw := hw.2 hc71
                        refine lv_tableOut (tgt := 109) hx hb dX11_act_51 (tb_out3_0 hc63 hc67 hc71) (by decide) ?_
                        refine lv_aload hx hb dX11_act_109 (lv_at hl 0 rfl) ?_
                        refine lv_iload_n hx hb dX11_act_111 rfl (lv_at hl 4 rfl) ?_
                        refine k_afti (va_runU (As := [.int a3]) (rest := []) ⟨hx, hb, hml, hown, hts0⟩ (c_X0_tells_c0 l D kA ly n hn A o12 a3 S13 _) (va_cwO 1 hts0 (good_pre gX11_act_X0_tells_u266X0 (fun w h => List.mem_append_left _ h) (wz_goodIn (fun w h => List.mem_append_right _ h) (List.mem_append_right _ (List.mem_append_left _ List.mem_cons_self)))) rfl rfl rfl (show Cond.code yX8_tells cX8_tells 2 (some .int) ∈ _ from (List.mem_append_right _ (List.mem_append_right _ (List.mem_append_right _ (List.mem_append_right _ (List.mem_append_right _ (List.mem_append_right _ (List.mem_append_right _ (List.mem_append_right _ (List.mem_append_right _ (List.mem_append_right _ (List.mem_append_right _ (List.mem_append_right _ (List.mem_append_right _ (List.mem_append_right _ (List.mem_append_left _ List.mem_cons_self)))))))))))))))) (by decide +kernel) ⟨(Nat.le_of_ble_eq_true rfl), (Nat.le_of_ble_eq_true rfl)⟩) ⟨k_blind, (k_recv hK hH hs62.2.1 (Ec_th hs62) rfl), k_pre hK hN hH hw⟩ rfl rfl hl.1 rfl (lv_room (Nat.le_of_ble_eq_true rfl)) dX11_act_112 ⟨(Nat.le_of_ble_eq_true rfl), (Nat.le_of_ble_eq_true rfl)⟩) hH (fun r76 S75 H locs hw hH => ?_)
                        refine lv_istore (lv' := [(5, .int r76), (4, .ref (ly o12)), (0, .ref (ly 0)), (1, .int a1), (2, .int a2), (3, .int a3)]) hx hb dX11_act_115 hl (by decide) rfl (fun ls hl => ?_)
                        refine lv_aload_n hx hb dX11_act_117 rfl (lv_at hl 2 rfl) ?_
                        refine gf_this_6 hx hb hts hiX11 hown hK hn hH lk0 dX11_act_118 ?_
                        refine gf_tr_2 hx hb hts hiX9 hown hK hn hH lk2 dX11_act_121 ?_
                        refine lv_if_eq (tgt := 132) hx hb dX11_act_124 (by decide) (fun hc77 => ?_) (fun hc77 => ?_)
                        · replace hw := hw.1 hc77
                          refine lv_iload hx hb dX11_act_132 (lv_at hl 0 rfl) ?_
                          refine W.widen (k := 1) (n := 3) (Nat.le_of_ble_eq_true rfl) (Nat.le_of_ble_eq_true rfl) ?_
                          exact g_iret hx hb hr hlocks hK hN hsub hH hw dX11_act_134
                        · replace hw := hw.2 hc77
                          refine lv_bipush (v := -15) hx hb dX11_act_127 (by decide +kernel) ?_
                          refine lv_goto (tgt := 134) hx hb dX11_act_129 (by decide) ?_
                          refine W.widen (k := 1) (n := 3) (Nat.le_of_ble_eq_true rfl) (Nat.le_of_ble_eq_true rfl) ?_
                          exact g_iret hx hb hr hlocks hK hN hsub hH hw dX11_act_134
                · skip
                  rcases hw with hw | hw
                  · obtain ⟨hs78, hw⟩ := hw
                    refine lv_astore (lv' := [(4, .ref (ly o12)), (0, .ref (ly 0)), (1, .int a1), (2, .int a2), (3, .int a3)]) hx hb dX11_act_48 hl (by decide) rfl (fun ls hl => ?_)
                    refine lv_iload_n hx hb dX11_act_50 rfl (lv_at hl 3 rfl) ?_
                    by_cases hc79 : a2 = 0
                    · replace hw := hw.1 hc79
                      refine lv_tableIn (tgt := 76) hx hb dX11_act_51 (by rw [hc79]; first | done | decide) (by rw [hc79]; first | done | decide) (by rw [hc79]; first | done | rfl) (by decide) ?_
                      refine lv_aload hx hb dX11_act_76 (lv_at hl 0 rfl) ?_
                      refine lv_iload_n hx hb dX11_act_78 rfl (lv_at hl 4 rfl) ?_
                      refine k_afti (va_runU (As := [.int a3]) (rest := []) ⟨hx, hb, hml, hown, hts0⟩ (c_X5_shows_c5 l D kA ly n hn A o12 a3 S13 _) (va_cwO 1 hts0 (good_pre gX11_act_X5_shows_u255X5 (fun w h => List.mem_append_left _ h) (wz_goodIn (fun w h => List.mem_append_right _ h) (List.mem_append_right _ (List.mem_append_right _ (List.mem_append_right _ (List.mem_append_right _ (List.mem_append_right _ (List.mem_append_right _ (List.mem_append_left _ List.mem_cons_self))))))))) rfl rfl rfl (show Cond.code yX8_shows cX8_shows 2 (some .int) ∈ _ from (List.mem_append_right _ (List.mem_append_right _ (List.mem_append_right _ (List.mem_append_right _ (List.mem_append_right _ (List.mem_append_right _ (List.mem_append_right _ (List.mem_append_right _ (List.mem_append_right _ (List.mem_append_right _ (List.mem_append_right _ (List.mem_append_left _ List.mem_cons_self))))))))))))) (by decide +kernel) ⟨(Nat.le_of_ble_eq_true rfl), (Nat.le_of_ble_eq_true rfl)⟩) ⟨k_blind, (k_recv hK hH hs78.2.1 (Ec_th hs78) rfl), k_pre hK hN hH hw⟩ rfl rfl hl.1 rfl (lv_room (Nat.le_of_ble_eq_true rfl)) dX11_act_79 ⟨(Nat.le_of_ble_eq_true rfl), (Nat.le_of_ble_eq_true rfl)⟩) hH (fun r81 S80 H locs hw hH => ?_)
                      refine lv_istore (lv' := [(5, .int r81), (4, .ref (ly o12)), (0, .ref (ly 0)), (1, .int a1), (2, .int a2), (3, .int a3)]) hx hb dX11_act_82 hl (by decide) rfl (fun ls hl => ?_)
                      refine lv_goto (tgt := 117) hx hb dX11_act_84 (by decide) ?_
                      refine lv_aload_n hx hb dX11_act_117 rfl (lv_at hl 2 rfl) ?_
                      refine gf_this_6 hx hb hts hiX11 hown hK hn hH lk0 dX11_act_118 ?_
                      refine gf_tr_2 hx hb hts hiX9 hown hK hn hH lk2 dX11_act_121 ?_
                      refine lv_if_eq (tgt := 132) hx hb dX11_act_124 (by decide) (fun hc82 => ?_) (fun hc82 => ?_)
                      · replace hw := hw.1 hc82
                        refine lv_iload hx hb dX11_act_132 (lv_at hl 0 rfl) ?_
                        refine W.widen (k := 1) (n := 3) (Nat.le_of_ble_eq_true rfl) (Nat.le_of_ble_eq_true rfl) ?_
                        exact g_iret hx hb hr hlocks hK hN hsub hH hw dX11_act_134
                      · replace hw := hw.2 hc82
                        refine lv_bipush (v := -15) hx hb dX11_act_127 (by decide +kernel) ?_
                        refine lv_goto (tgt := 134) hx hb dX11_act_129 (by decide) ?_
                        refine W.widen (k := 1) (n := 3) (Nat.le_of_ble_eq_true rfl) (Nat.le_of_ble_eq_true rfl) ?_
                        exact g_iret hx hb hr hlocks hK hN hsub hH hw dX11_act_134
                    · replace hw := hw.2 hc79
                      by_cases hc83 : a2 = 1
                      · replace hw := hw.1 hc83
                        refine lv_tableIn (tgt := 87) hx hb dX11_act_51 (by rw [hc83]; first | done | decide) (by rw [hc83]; first | done | decide) (by rw [hc83]; first | done | rfl) (by decide) ?_
                        refine lv_aload hx hb dX11_act_87 (lv_at hl 0 rfl) ?_
                        refine lv_iload_n hx hb dX11_act_89 rfl (lv_at hl 4 rfl) ?_
                        refine k_afti (va_runU (As := [.int a3]) (rest := []) ⟨hx, hb, hml, hown, hts0⟩ (c_X5_moves_c5 l D kA ly n hn A o12 a3 S13 _) (va_cwO 1 hts0 (good_pre gX11_act_X5_moves_u260X5 (fun w h => List.mem_append_left _ h) (wz_goodIn (fun w h => List.mem_append_right _ h) (List.mem_append_right _ (List.mem_append_right _ (List.mem_append_right _ (List.mem_append_right _ (List.mem_append_right _ (List.mem_append_right _ (List.mem_append_right _ (List.mem_append_left _ List.mem_cons_self)))))))))) rfl rfl rfl (show Cond.code yX8_moves cX8_moves 2 (some .int) ∈ _ from (List.mem_append_right _ (List.mem_append_right _ (List.mem_append_right _ (List.mem_append_right _ (List.mem_append_right _ (List.mem_append_right _ (List.mem_append_right _ (List.mem_append_right _ (List.mem_append_right _ (List.mem_append_right _ (List.mem_append_right _ (List.mem_append_right _ (List.mem_append_left _ List.mem_cons_self)))))))))))))) (by decide +kernel) ⟨(Nat.le_of_ble_eq_true rfl), (Nat.le_of_ble_eq_true rfl)⟩) ⟨k_blind, (k_recv hK hH hs78.2.1 (Ec_th hs78) rfl), k_pre hK hN hH hw⟩ rfl rfl hl.1 rfl (lv_room (Nat.le_of_ble_eq_true rfl)) dX11_act_90 ⟨(Nat.le_of_ble_eq_true rfl), (Nat.le_of_ble_eq_true rfl)⟩) hH (fun r85 S84 H locs hw hH => ?_)
                        refine lv_istore (lv' := [(5, .int r85), (4, .ref (ly o12)), (0, .ref (ly 0)), (1, .int a1), (2, .int a2), (3, .int a3)]) hx hb dX11_act_93 hl (by decide) rfl (fun ls hl => ?_)
                        refine lv_goto (tgt := 117) hx hb dX11_act_95 (by decide) ?_
                        refine lv_aload_n hx hb dX11_act_117 rfl (lv_at hl 2 rfl) ?_
                        refine gf_this_6 hx hb hts hiX11 hown hK hn hH lk0 dX11_act_118 ?_
                        refine gf_tr_2 hx hb hts hiX9 hown hK hn hH lk2 dX11_act_121 ?_
                        refine lv_if_eq (tgt := 132) hx hb dX11_act_124 (by decide) (fun hc86 => ?_) (fun hc86 => ?_)
                        · replace hw := hw.1 hc86
                          refine lv_iload hx hb dX11_act_132 (lv_at hl 0 rfl) ?_
                          refine W.widen (k := 1) (n := 3) (Nat.le_of_ble_eq_true rfl) (Nat.le_of_ble_eq_true rfl) ?_
                          exact g_iret hx hb hr hlocks hK hN hsub hH hw dX11_act_134
                        · replace hw := hw.2 hc86
                          refine lv_bipush (v := -15) hx hb dX11_act_127 (by decide +kernel) ?_
                          refine lv_goto (tgt := 134) hx hb dX11_act_129 (by decide) ?_
                          refine W.widen (k := 1) (n := 3) (Nat.le_of_ble_eq_true rfl) (Nat.le_of_ble_eq_true rfl) ?_
                          exact g_iret hx hb hr hlocks hK hN hsub hH hw dX11_act_134
                      · replace hw := hw.2 hc83
                        by_cases hc87 : a2 = 2
                        · replace hw := hw.1 hc87
                          refine lv_tableIn (tgt := 98) hx hb dX11_act_51 (by rw [hc87]; first | done | decide) (by rw [hc87]; first | done | decide) (by rw [hc87]; first | done | rfl) (by decide) ?_
                          refine lv_aload hx hb dX11_act_98 (lv_at hl 0 rfl) ?_
                          refine lv_iload_n hx hb dX11_act_100 rfl (lv_at hl 4 rfl) ?_
                          refine k_afti (va_runU (As := [.int a3]) (rest := []) ⟨hx, hb, hml, hown, hts0⟩ (c_X8_shares_c5 l D kA ly n hn A o12 a3 S13 _) (va_cwU 1 hts0 (good_pre gX11_act_X8_shares_u263X5 (fun w h => List.mem_append_left _ h) (wz_goodIn (fun w h => List.mem_append_right _ h) (List.mem_append_right _ (List.mem_append_right _ (List.mem_append_right _ (List.mem_append_right _ (List.mem_append_right _ (List.mem_append_right _ (List.mem_append_right _ (List.mem_append_right _ (List.mem_append_right _ (List.mem_append_right _ (List.mem_append_right _ (List.mem_append_left _ List.mem_cons_self)))))))))))))) rfl rfl rfl rfl (by decide +kernel) ⟨(Nat.le_of_ble_eq_true rfl), (Nat.le_of_ble_eq_true rfl)⟩) ⟨k_blind, (k_recv hK hH hs78.2.1 (Ec_th hs78) rfl), k_pre hK hN hH hw⟩ rfl rfl hl.1 rfl (lv_room (Nat.le_of_ble_eq_true rfl)) dX11_act_101 ⟨(Nat.le_of_ble_eq_true rfl), (Nat.le_of_ble_eq_true rfl)⟩) hH (fun r89 S88 H locs hw hH => ?_)
                          refine lv_istore (lv' := [(5, .int r89), (4, .ref (ly o12)), (0, .ref (ly 0)), (1, .int a1), (2, .int a2), (3, .int a3)]) hx hb dX11_act_104 hl (by decide) rfl (fun ls hl => ?_)
                          refine lv_goto (tgt := 117) hx hb dX11_act_106 (by decide) ?_
                          refine lv_aload_n hx hb dX11_act_117 rfl (lv_at hl 2 rfl) ?_
                          refine gf_this_6 hx hb hts hiX11 hown hK hn hH lk0 dX11_act_118 ?_
                          refine gf_tr_2 hx hb hts hiX9 hown hK hn hH lk2 dX11_act_121 ?_
                          refine lv_if_eq (tgt := 132) hx hb dX11_act_124 (by decide) (fun hc90 => ?_) (fun hc90 => ?_)
                          · replace hw := hw.1 hc90
                            refine lv_iload hx hb dX11_act_132 (lv_at hl 0 rfl) ?_
                            refine W.widen (k := 1) (n := 3) (Nat.le_of_ble_eq_true rfl) (Nat.le_of_ble_eq_true rfl) ?_
                            exact g_iret hx hb hr hlocks hK hN hsub hH hw dX11_act_134
                          · replace hw := hw.2 hc90
                            refine lv_bipush (v := -15) hx hb dX11_act_127 (by decide +kernel) ?_
                            refine lv_goto (tgt := 134) hx hb dX11_act_129 (by decide) ?_
                            refine W.widen (k := 1) (n := 3) (Nat.le_of_ble_eq_true rfl) (Nat.le_of_ble_eq_true rfl) ?_
                            exact g_iret hx hb hr hlocks hK hN hsub hH hw dX11_act_134
                        · replace hw := hw.2 hc87
                          refine lv_tableOut (tgt := 109) hx hb dX11_act_51 (tb_out3_0 hc79 hc83 hc87) (by decide) ?_
                          refine lv_aload hx hb dX11_act_109 (lv_at hl 0 rfl) ?_
                          refine lv_iload_n hx hb dX11_act_111 rfl (lv_at hl 4 rfl) ?_
                          refine k_afti (va_runU (As := [.int a3]) (rest := []) ⟨hx, hb, hml, hown, hts0⟩ (c_X0_tells_c5 l D kA ly n hn A o12 a3 S13 _) (va_cwO 1 hts0 (good_pre gX11_act_X0_tells_u266X5 (fun w h => List.mem_append_left _ h) (wz_goodIn (fun w h => List.mem_append_right _ h) (List.mem_append_right _ (List.mem_append_left _ List.mem_cons_self)))) rfl rfl rfl (show Cond.code yX8_tells cX8_tells 2 (some .int) ∈ _ from (List.mem_append_right _ (List.mem_append_right _ (List.mem_append_right _ (List.mem_append_right _ (List.mem_append_right _ (List.mem_append_right _ (List.mem_append_right _ (List.mem_append_right _ (List.mem_append_right _ (List.mem_append_right _ (List.mem_append_right _ (List.mem_append_right _ (List.mem_append_right _ (List.mem_append_right _ (List.mem_append_left _ List.mem_cons_self)))))))))))))))) (by decide +kernel) ⟨(Nat.le_of_ble_eq_true rfl), (Nat.le_of_ble_eq_true rfl)⟩) ⟨k_blind, (k_recv hK hH hs78.2.1 (Ec_th hs78) rfl), k_pre hK hN hH hw⟩ rfl rfl hl.1 rfl (lv_room (Nat.le_of_ble_eq_true rfl)) dX11_act_112 ⟨(Nat.le_of_ble_eq_true rfl), (Nat.le_of_ble_eq_true rfl)⟩) hH (fun r92 S91 H locs hw hH => ?_)
                          refine lv_istore (lv' := [(5, .int r92), (4, .ref (ly o12)), (0, .ref (ly 0)), (1, .int a1), (2, .int a2), (3, .int a3)]) hx hb dX11_act_115 hl (by decide) rfl (fun ls hl => ?_)
                          refine lv_aload_n hx hb dX11_act_117 rfl (lv_at hl 2 rfl) ?_
                          refine gf_this_6 hx hb hts hiX11 hown hK hn hH lk0 dX11_act_118 ?_
                          refine gf_tr_2 hx hb hts hiX9 hown hK hn hH lk2 dX11_act_121 ?_
                          refine lv_if_eq (tgt := 132) hx hb dX11_act_124 (by decide) (fun hc93 => ?_) (fun hc93 => ?_)
                          · replace hw := hw.1 hc93
                            refine lv_iload hx hb dX11_act_132 (lv_at hl 0 rfl) ?_
                            refine W.widen (k := 1) (n := 3) (Nat.le_of_ble_eq_true rfl) (Nat.le_of_ble_eq_true rfl) ?_
                            exact g_iret hx hb hr hlocks hK hN hsub hH hw dX11_act_134
                          · replace hw := hw.2 hc93
                            refine lv_bipush (v := -15) hx hb dX11_act_127 (by decide +kernel) ?_
                            refine lv_goto (tgt := 134) hx hb dX11_act_129 (by decide) ?_
                            refine W.widen (k := 1) (n := 3) (Nat.le_of_ble_eq_true rfl) (Nat.le_of_ble_eq_true rfl) ?_
                            exact g_iret hx hb hr hlocks hK hN hsub hH hw dX11_act_134
                  · skip
                    obtain ⟨hs94, hw⟩ := hw
                    refine lv_astore (lv' := [(4, .ref (ly o12)), (0, .ref (ly 0)), (1, .int a1), (2, .int a2), (3, .int a3)]) hx hb dX11_act_48 hl (by decide) rfl (fun ls hl => ?_)
                    refine lv_iload_n hx hb dX11_act_50 rfl (lv_at hl 3 rfl) ?_
                    by_cases hc95 : a2 = 0
                    · replace hw := hw.1 hc95
                      refine lv_tableIn (tgt := 76) hx hb dX11_act_51 (by rw [hc95]; first | done | decide) (by rw [hc95]; first | done | decide) (by rw [hc95]; first | done | rfl) (by decide) ?_
                      refine lv_aload hx hb dX11_act_76 (lv_at hl 0 rfl) ?_
                      refine lv_iload_n hx hb dX11_act_78 rfl (lv_at hl 4 rfl) ?_
                      refine k_afti (va_runU (As := [.int a3]) (rest := []) ⟨hx, hb, hml, hown, hts0⟩ (c_X8_shows_c2 l D kA ly n hn A o12 a3 S13 _) (va_cwU 1 hts0 (good_pre gX11_act_X8_shows_u255X2 (fun w h => List.mem_append_left _ h) (wz_goodIn (fun w h => List.mem_append_right _ h) (List.mem_append_right _ (List.mem_append_right _ (List.mem_append_right _ (List.mem_append_right _ (List.mem_append_right _ (List.mem_append_right _ (List.mem_append_right _ (List.mem_append_right _ (List.mem_append_right _ (List.mem_append_left _ List.mem_cons_self)))))))))))) rfl rfl rfl rfl (by decide +kernel) ⟨(Nat.le_of_ble_eq_true rfl), (Nat.le_of_ble_eq_true rfl)⟩) ⟨k_blind, (k_recv hK hH hs94.2.1 (Ec_th hs94) rfl), k_pre hK hN hH hw⟩ rfl rfl hl.1 rfl (lv_room (Nat.le_of_ble_eq_true rfl)) dX11_act_79 ⟨(Nat.le_of_ble_eq_true rfl), (Nat.le_of_ble_eq_true rfl)⟩) hH (fun r97 S96 H locs hw hH => ?_)
                      refine lv_istore (lv' := [(5, .int r97), (4, .ref (ly o12)), (0, .ref (ly 0)), (1, .int a1), (2, .int a2), (3, .int a3)]) hx hb dX11_act_82 hl (by decide) rfl (fun ls hl => ?_)
                      refine lv_goto (tgt := 117) hx hb dX11_act_84 (by decide) ?_
                      refine lv_aload_n hx hb dX11_act_117 rfl (lv_at hl 2 rfl) ?_
                      refine gf_this_6 hx hb hts hiX11 hown hK hn hH lk0 dX11_act_118 ?_
                      refine gf_tr_2 hx hb hts hiX9 hown hK hn hH lk2 dX11_act_121 ?_
                      refine lv_if_eq (tgt := 132) hx hb dX11_act_124 (by decide) (fun hc98 => ?_) (fun hc98 => ?_)
                      · replace hw := hw.1 hc98
                        refine lv_iload hx hb dX11_act_132 (lv_at hl 0 rfl) ?_
                        refine W.widen (k := 1) (n := 3) (Nat.le_of_ble_eq_true rfl) (Nat.le_of_ble_eq_true rfl) ?_
                        exact g_iret hx hb hr hlocks hK hN hsub hH hw dX11_act_134
                      · replace hw := hw.2 hc98
                        refine lv_bipush (v := -15) hx hb dX11_act_127 (by decide +kernel) ?_
                        refine lv_goto (tgt := 134) hx hb dX11_act_129 (by decide) ?_
                        refine W.widen (k := 1) (n := 3) (Nat.le_of_ble_eq_true rfl) (Nat.le_of_ble_eq_true rfl) ?_
                        exact g_iret hx hb hr hlocks hK hN hsub hH hw dX11_act_134
                    · replace hw := hw.2 hc95
                      by_cases hc99 : a2 = 1
                      · replace hw := hw.1 hc99
                        refine lv_tableIn (tgt := 87) hx hb dX11_act_51 (by rw [hc99]; first | done | decide) (by rw [hc99]; first | done | decide) (by rw [hc99]; first | done | rfl) (by decide) ?_
                        refine lv_aload hx hb dX11_act_87 (lv_at hl 0 rfl) ?_
                        refine lv_iload_n hx hb dX11_act_89 rfl (lv_at hl 4 rfl) ?_
                        refine k_afti (va_runU (As := [.int a3]) (rest := []) ⟨hx, hb, hml, hown, hts0⟩ (c_X8_moves_c2 l D kA ly n hn A o12 a3 S13 _) (va_cwU 1 hts0 (good_pre gX11_act_X8_moves_u260X2 (fun w h => List.mem_append_left _ h) (wz_goodIn (fun w h => List.mem_append_right _ h) (List.mem_append_right _ (List.mem_append_right _ (List.mem_append_right _ (List.mem_append_right _ (List.mem_append_right _ (List.mem_append_right _ (List.mem_append_right _ (List.mem_append_right _ (List.mem_append_right _ (List.mem_append_right _ (List.mem_append_left _ List.mem_cons_self))))))))))))) rfl rfl rfl rfl (by decide +kernel) ⟨(Nat.le_of_ble_eq_true rfl), (Nat.le_of_ble_eq_true rfl)⟩) ⟨k_blind, (k_recv hK hH hs94.2.1 (Ec_th hs94) rfl), k_pre hK hN hH hw⟩ rfl rfl hl.1 rfl (lv_room (Nat.le_of_ble_eq_true rfl)) dX11_act_90 ⟨(Nat.le_of_ble_eq_true rfl), (Nat.le_of_ble_eq_true rfl)⟩) hH (fun r101 S100 H locs hw hH => ?_)
                        refine lv_istore (lv' := [(5, .int r101), (4, .ref (ly o12)), (0, .ref (ly 0)), (1, .int a1), (2, .int a2), (3, .int a3)]) hx hb dX11_act_93 hl (by decide) rfl (fun ls hl => ?_)
                        refine lv_goto (tgt := 117) hx hb dX11_act_95 (by decide) ?_
                        refine lv_aload_n hx hb dX11_act_117 rfl (lv_at hl 2 rfl) ?_
                        refine gf_this_6 hx hb hts hiX11 hown hK hn hH lk0 dX11_act_118 ?_
                        refine gf_tr_2 hx hb hts hiX9 hown hK hn hH lk2 dX11_act_121 ?_
                        refine lv_if_eq (tgt := 132) hx hb dX11_act_124 (by decide) (fun hc102 => ?_) (fun hc102 => ?_)
                        · replace hw := hw.1 hc102
                          refine lv_iload hx hb dX11_act_132 (lv_at hl 0 rfl) ?_
                          refine W.widen (k := 1) (n := 3) (Nat.le_of_ble_eq_true rfl) (Nat.le_of_ble_eq_true rfl) ?_
                          exact g_iret hx hb hr hlocks hK hN hsub hH hw dX11_act_134
                        · replace hw := hw.2 hc102
                          refine lv_bipush (v := -15) hx hb dX11_act_127 (by decide +kernel) ?_
                          refine lv_goto (tgt := 134) hx hb dX11_act_129 (by decide) ?_
                          refine W.widen (k := 1) (n := 3) (Nat.le_of_ble_eq_true rfl) (Nat.le_of_ble_eq_true rfl) ?_
                          exact g_iret hx hb hr hlocks hK hN hsub hH hw dX11_act_134
                      · replace hw := hw.2 hc99
                        by_cases hc103 : a2 = 2
                        · replace hw := hw.1 hc103
                          refine lv_tableIn (tgt := 98) hx hb dX11_act_51 (by rw [hc103]; first | done | decide) (by rw [hc103]; first | done | decide) (by rw [hc103]; first | done | rfl) (by decide) ?_
                          refine lv_aload hx hb dX11_act_98 (lv_at hl 0 rfl) ?_
                          refine lv_iload_n hx hb dX11_act_100 rfl (lv_at hl 4 rfl) ?_
                          refine k_afti (va_runU (As := [.int a3]) (rest := []) ⟨hx, hb, hml, hown, hts0⟩ (c_X2_shares_c2 l D kA ly n hn A o12 a3 S13 _) (va_cwO 1 hts0 (good_pre gX11_act_X2_shares_u263X2 (fun w h => List.mem_append_left _ h) (wz_goodIn (fun w h => List.mem_append_right _ h) (List.mem_append_right _ (List.mem_append_right _ (List.mem_append_right _ (List.mem_append_right _ (List.mem_append_right _ (List.mem_append_left _ List.mem_cons_self)))))))) rfl rfl rfl (show Cond.code yX8_shares cX8_shares 2 (some .int) ∈ _ from (List.mem_append_right _ (List.mem_append_right _ (List.mem_append_right _ (List.mem_append_right _ (List.mem_append_right _ (List.mem_append_right _ (List.mem_append_right _ (List.mem_append_right _ (List.mem_append_right _ (List.mem_append_right _ (List.mem_append_right _ (List.mem_append_right _ (List.mem_append_right _ (List.mem_append_left _ List.mem_cons_self))))))))))))))) (by decide +kernel) ⟨(Nat.le_of_ble_eq_true rfl), (Nat.le_of_ble_eq_true rfl)⟩) ⟨k_blind, (k_recv hK hH hs94.2.1 (Ec_th hs94) rfl), k_pre hK hN hH hw⟩ rfl rfl hl.1 rfl (lv_room (Nat.le_of_ble_eq_true rfl)) dX11_act_101 ⟨(Nat.le_of_ble_eq_true rfl), (Nat.le_of_ble_eq_true rfl)⟩) hH (fun r105 S104 H locs hw hH => ?_)
                          refine lv_istore (lv' := [(5, .int r105), (4, .ref (ly o12)), (0, .ref (ly 0)), (1, .int a1), (2, .int a2), (3, .int a3)]) hx hb dX11_act_104 hl (by decide) rfl (fun ls hl => ?_)
                          refine lv_goto (tgt := 117) hx hb dX11_act_106 (by decide) ?_
                          refine lv_aload_n hx hb dX11_act_117 rfl (lv_at hl 2 rfl) ?_
                          refine gf_this_6 hx hb hts hiX11 hown hK hn hH lk0 dX11_act_118 ?_
                          refine gf_tr_2 hx hb hts hiX9 hown hK hn hH lk2 dX11_act_121 ?_
                          refine lv_if_eq (tgt := 132) hx hb dX11_act_124 (by decide) (fun hc106 => ?_) (fun hc106 => ?_)
                          · replace hw := hw.1 hc106
                            refine lv_iload hx hb dX11_act_132 (lv_at hl 0 rfl) ?_
                            refine W.widen (k := 1) (n := 3) (Nat.le_of_ble_eq_true rfl) (Nat.le_of_ble_eq_true rfl) ?_
                            exact g_iret hx hb hr hlocks hK hN hsub hH hw dX11_act_134
                          · replace hw := hw.2 hc106
                            refine lv_bipush (v := -15) hx hb dX11_act_127 (by decide +kernel) ?_
                            refine lv_goto (tgt := 134) hx hb dX11_act_129 (by decide) ?_
                            refine W.widen (k := 1) (n := 3) (Nat.le_of_ble_eq_true rfl) (Nat.le_of_ble_eq_true rfl) ?_
                            exact g_iret hx hb hr hlocks hK hN hsub hH hw dX11_act_134
                        · replace hw := hw.2 hc103
                          refine lv_tableOut (tgt := 109) hx hb dX11_act_51 (tb_out3_0 hc95 hc99 hc103) (by decide) ?_
                          refine lv_aload hx hb dX11_act_109 (lv_at hl 0 rfl) ?_
                          refine lv_iload_n hx hb dX11_act_111 rfl (lv_at hl 4 rfl) ?_
                          refine k_afti (va_runU (As := [.int a3]) (rest := []) ⟨hx, hb, hml, hown, hts0⟩ (c_X2_tells_c2 l D kA ly n hn A o12 a3 S13 _) (va_cwO 1 hts0 (good_pre gX11_act_X2_tells_u266X2 (fun w h => List.mem_append_left _ h) (wz_goodIn (fun w h => List.mem_append_right _ h) (List.mem_append_right _ (List.mem_append_right _ (List.mem_append_right _ (List.mem_append_right _ (List.mem_append_left _ List.mem_cons_self))))))) rfl rfl rfl (show Cond.code yX8_tells cX8_tells 2 (some .int) ∈ _ from (List.mem_append_right _ (List.mem_append_right _ (List.mem_append_right _ (List.mem_append_right _ (List.mem_append_right _ (List.mem_append_right _ (List.mem_append_right _ (List.mem_append_right _ (List.mem_append_right _ (List.mem_append_right _ (List.mem_append_right _ (List.mem_append_right _ (List.mem_append_right _ (List.mem_append_right _ (List.mem_append_left _ List.mem_cons_self)))))))))))))))) (by decide +kernel) ⟨(Nat.le_of_ble_eq_true rfl), (Nat.le_of_ble_eq_true rfl)⟩) ⟨k_blind, (k_recv hK hH hs94.2.1 (Ec_th hs94) rfl), k_pre hK hN hH hw⟩ rfl rfl hl.1 rfl (lv_room (Nat.le_of_ble_eq_true rfl)) dX11_act_112 ⟨(Nat.le_of_ble_eq_true rfl), (Nat.le_of_ble_eq_true rfl)⟩) hH (fun r108 S107 H locs hw hH => ?_)
                          refine lv_istore (lv' := [(5, .int r108), (4, .ref (ly o12)), (0, .ref (ly 0)), (1, .int a1), (2, .int a2), (3, .int a3)]) hx hb dX11_act_115 hl (by decide) rfl (fun ls hl => ?_)
                          refine lv_aload_n hx hb dX11_act_117 rfl (lv_at hl 2 rfl) ?_
                          refine gf_this_6 hx hb hts hiX11 hown hK hn hH lk0 dX11_act_118 ?_
                          refine gf_tr_2 hx hb hts hiX9 hown hK hn hH lk2 dX11_act_121 ?_
                          refine lv_if_eq (tgt := 132) hx hb dX11_act_124 (by decide) (fun hc109 => ?_) (fun hc109 => ?_)
                          · replace hw := hw.1 hc109
                            refine lv_iload hx hb dX11_act_132 (lv_at hl 0 rfl) ?_
                            refine W.widen (k := 1) (n := 3) (Nat.le_of_ble_eq_true rfl) (Nat.le_of_ble_eq_true rfl) ?_
                            exact g_iret hx hb hr hlocks hK hN hsub hH hw dX11_act_134
                          · replace hw := hw.2 hc109
                            refine lv_bipush (v := -15) hx hb dX11_act_127 (by decide +kernel) ?_
                            refine lv_goto (tgt := 134) hx hb dX11_act_129 (by decide) ?_
                            refine W.widen (k := 1) (n := 3) (Nat.le_of_ble_eq_true rfl) (Nat.le_of_ble_eq_true rfl) ?_
                            exact g_iret hx hb hr hlocks hK hN hsub hH hw dX11_act_134
        · replace hw := hw.1 hc10
          refine lv_iconst (v := 0) hx hb dX11_act_36 (by decide +kernel) ?_
          refine W.widen (k := 1) (n := 3) (Nat.le_of_ble_eq_true rfl) (Nat.le_of_ble_eq_true rfl) ?_
          exact g_iret hx hb hr hlocks hK hN hsub hH hw dX11_act_37
