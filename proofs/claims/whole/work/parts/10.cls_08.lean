def wp_X11_isSort (a0 : Int32) (S : St) (Q : Int32 → St → Prop) : Prop := ((a0 < 0 → Q (0 : Int32) S) ∧ (¬ a0 < 0 → (((4 : Int32) ≤ a0 → Q (0 : Int32) S) ∧ (¬ (4 : Int32) ≤ a0 → Q (1 : Int32) S))))
set_option maxHeartbeats 4000000 in
set_option maxRecDepth 100000 in
theorem c_X11_isSort (l : Launch) (D : va_G) (kA : Nat → ClassId) (ly : Nat → Nat) (n : List Nat) (hn : ∀ c, c < 59 → c ∈ n) (A : Nat → Prop) (a0 : Int32) : Ci l yX11_isSort wsX11_isSort 0 0 (Gp D (Ec kA ly) ly n A kA) A [.int a0] (wp_X11_isSort a0) := by
  intro S Q
  refine Met.ofW (cc := cX11_isSort) (maxL := 1) (ret := (some .boolean)) (by decide) rfl ?_
  intro p e s m args below meth c s₁ B hml hv
  obtain ⟨rfl, ⟨hP, hD, hK, hN⟩, hw⟩ := hv
  have hx := B.exec
  have hb := B.bytes
  have hr := B.returns
  have hts := atoms_spec (ws := wsX11_isSort) B.pre
  have hown : s.vm.findClass RX11 = some m.cls := findClass_of_methodNamed B.named
  have hlocks := B.notSynchronized
  have hH : Hp D (Ec kA ly) ly n A s.heap S s.heap [] := ⟨hP, hD, va_S.rf⟩
  have hl := lv_entry ([.int a0]) (n := 1) (Nat.le_of_ble_eq_true rfl)
  rw [lg_entry_eq]
  generalize (lg_sl ([.int a0]) ++ List.replicate (1 - (lg_sl ([.int a0])).length) Slot.unset).toArray = ls at hl ⊢
  have hl : lv_has ls 1 [(0, .int a0)] := hl
  rw [wp_X11_isSort] at hw
  refine lv_iload_n hx hb dX11_isSort_0 rfl (lv_at hl 0 rfl) ?_
  refine lv_if_lt (tgt := 13) hx hb dX11_isSort_1 (by decide) (fun hc1 => ?_) (fun hc1 => ?_)
  · replace hw := hw.1 hc1
    refine lv_iconst (v := 0) hx hb dX11_isSort_13 (by decide +kernel) ?_
    exact k_zret hx hb hr hlocks hK hN hH rfl hw dX11_isSort_14
  · replace hw := hw.2 hc1
    refine lv_iload_n hx hb dX11_isSort_4 rfl (lv_at hl 0 rfl) ?_
    refine lv_iconst (v := 4) hx hb dX11_isSort_5 (by decide +kernel) ?_
    refine lv_icmp_ge (tgt := 13) hx hb dX11_isSort_6 (by decide) (fun hc2 => ?_) (fun hc2 => ?_)
    · replace hw := hw.1 hc2
      refine lv_iconst (v := 0) hx hb dX11_isSort_13 (by decide +kernel) ?_
      exact k_zret hx hb hr hlocks hK hN hH rfl hw dX11_isSort_14
    · replace hw := hw.2 hc2
      refine lv_iconst (v := 1) hx hb dX11_isSort_9 (by decide +kernel) ?_
      refine lv_goto (tgt := 14) hx hb dX11_isSort_10 (by decide) ?_
      exact k_zret hx hb hr hlocks hK hN hH rfl hw dX11_isSort_14
def wp_X11_put (n : List Nat) (a1 : Int32) (a2 : Int32) (a3 : Int32) (S : St) (Q : Int32 → St → Prop) : Prop := wp_X11_isSheet a1 S (fun r2 S1 => ((r2 = 0 → Q (-1 : Int32) S1) ∧ (¬ r2 = 0 → (vp_in a1 4 ∧ ∀ o5 : Nat, o5 = gN S1 4 a1.toNatClampNeg → (o5 = 0 → Q (-11 : Int32) S1) ∧ (¬ o5 = 0 → isSh n S1 o5 ∧ wp_X6_has n o5 a2 S1 (fun r7 S6 => ((r7 = 0 → Q (-12 : Int32) S6) ∧ (¬ r7 = 0 → isSh n S6 o5 ∧ (∀ o10 : Nat, o10 = (gN S6 o5 1) → isIt n S6 o10 ∧ wp_X6_narrowed n o5 a3 S6 (fun r12 S11 => (isIt n S11 o10 ∧ vp_in a2 (gN S11 o10 0) ∧ ∀ S14 : St, S14 = sA S11 o10 a2.toNatClampNeg r12 → Q (1 : Int32) S14)))))))))))
set_option maxHeartbeats 4000000 in
set_option maxRecDepth 100000 in
theorem c_X11_put (l : Launch) (D : va_G) (kA : Nat → ClassId) (ly : Nat → Nat) (n : List Nat) (hn : ∀ c, c < 59 → c ∈ n) (A : Nat → Prop) (a1 : Int32) (a2 : Int32) (a3 : Int32) : Ci l yX11_put wsX11_put 1 21 (Gp D (Ec kA ly) ly n A kA) A [.ref (ly 0), .int a1, .int a2, .int a3] (wp_X11_put n a1 a2 a3) := by
  intro S Q
  refine Met.ofW (cc := cX11_put) (maxL := 5) (ret := (some .int)) (by decide) rfl ?_
  intro p e s m args below meth c s₁ B hml hv
  obtain ⟨rfl, ⟨hP, hD, hK, hN⟩, hw⟩ := hv
  have hx := B.exec
  have hb := B.bytes
  have hr := B.returns
  have hts := atoms_spec (ws := wsX11_put) B.pre
  have hown : s.vm.findClass RX11 = some m.cls := findClass_of_methodNamed B.named
  have hlocks := B.notSynchronized
  have hH : Hp D (Ec kA ly) ly n A s.heap S s.heap [] := ⟨hP, hD, va_S.rf⟩
  have hiX11 : ∀ w ∈ u_ws RX11 TX11 12, w ∈ wsX11_put := by decide +kernel
  have hiX6 : ∀ w ∈ u_ws RX6 TX6 2, w ∈ wsX11_put := by decide +kernel
  have lk0 := hts (.fieldLink RX11 29 "SlowPanes" "sheets" "[LSlowPanes$Sheet;") (by decide +kernel)
  have lk1 := hts (.fieldLink RX11 226 "SlowPanes$Sheet" "items" "[I") (by decide +kernel)
  have hl := lv_entry ([.ref (ly 0), .int a1, .int a2, .int a3]) (n := 5) (Nat.le_of_ble_eq_true rfl)
  rw [lg_entry_eq]
  generalize (lg_sl ([.ref (ly 0), .int a1, .int a2, .int a3]) ++ List.replicate (5 - (lg_sl ([.ref (ly 0), .int a1, .int a2, .int a3])).length) Slot.unset).toArray = ls at hl ⊢
  have hl : lv_has ls 5 [(0, .ref (ly 0)), (1, .int a1), (2, .int a2), (3, .int a3)] := hl
  rw [wp_X11_put] at hw
  refine lv_iload_n hx hb dX11_put_0 rfl (lv_at hl 1 rfl) ?_
  refine k_afti (va_runS (As := [.int a1]) (rest := []) ⟨hx, hb, hml, hown, hts⟩ (c_X11_isSheet l D kA ly n hn A a1 S _) (va_cwS 1 hts gX11_put_X11_isSheet rfl rfl rfl (by decide +kernel) ⟨(Nat.le_of_ble_eq_true rfl), (Nat.le_of_ble_eq_true rfl)⟩) ⟨k_blind, k_pre hK hN hH hw⟩ rfl rfl hl.1 rfl (lv_room (Nat.le_of_ble_eq_true rfl)) dX11_put_1 ⟨Nat.le_refl _, Nat.le_refl _⟩) hH (fun r2 S1 H locs hw hH => ?_)
  refine lv_if_ne (tgt := 9) hx hb dX11_put_4 (by decide) (fun hc3 => ?_) (fun hc3 => ?_)
  · replace hw := hw.2 hc3
    refine lv_aload_n hx hb dX11_put_9 rfl (lv_at hl 0 rfl) ?_
    refine gf_this_3 hx hb hts hiX11 hown hK hn hH lk0 dX11_put_10 ?_
    refine lv_iload_n hx hb dX11_put_13 rfl (lv_at hl 1 rfl) ?_
    obtain ⟨hi_4, hw⟩ := hw
    obtain ⟨o5, eo5⟩ : ∃ y : Nat, y = gN S1 4 a1.toNatClampNeg := ⟨_, rfl⟩
    replace hw := hw o5 eo5
    by_cases hz16 : o5 = 0
    · replace hw := hw.1 hz16
      refine k_ald (t0 := 2) (v := .null) hx hb hK hH (lt_n hn (by decide)) rfl Ec_4 hi_4 (qsN_0 (by rw [← eo5]; exact hz16)) dX11_put_14 ?_
      refine lv_astoreN (lv' := [(4, .null), (0, .ref (ly 0)), (1, .int a1), (2, .int a2), (3, .int a3)]) hx hb dX11_put_15 hl (by decide) rfl (fun ls hl => ?_)
      refine lv_aloadN hx hb dX11_put_17 (lv_at hl 0 rfl) ?_
      refine lv_ifnonnullN hx hb dX11_put_19 ?_
      refine lv_bipush (v := -11) hx hb dX11_put_22 (by decide +kernel) ?_
      exact k_iret hx hb hr hlocks hK hN hH hw dX11_put_24
    · obtain ⟨ho5, hw⟩ := hw.2 hz16
      refine k_ald (t0 := 2) (v := .ref (ly o5)) hx hb hK hH (lt_n hn (by decide)) rfl Ec_4 hi_4 (qsN_1 eo5 hz16) dX11_put_14 ?_
      refine lv_astore (lv' := [(4, .ref (ly o5)), (0, .ref (ly 0)), (1, .int a1), (2, .int a2), (3, .int a3)]) hx hb dX11_put_15 hl (by decide) rfl (fun ls hl => ?_)
      refine lv_aload hx hb dX11_put_17 (lv_at hl 0 rfl) ?_
      refine lv_ifnonnull (tgt := 25) hx hb dX11_put_19 (by decide) ?_
      refine lv_aload hx hb dX11_put_25 (lv_at hl 0 rfl) ?_
      refine lv_iload_n hx hb dX11_put_27 rfl (lv_at hl 3 rfl) ?_
      refine k_afti (va_runV (As := [.int a2]) (rest := []) ⟨hx, hb, hml, hown, hts⟩ (c_X6_has l D kA ly n hn A o5 a2 S1 _) (cwV 1 hts gX11_put_X6_has rfl rfl rfl (by decide +kernel) ⟨(Nat.le_of_ble_eq_true rfl), (Nat.le_of_ble_eq_true rfl)⟩) ⟨k_blind, (k_recv hK hH ho5.2.1 (Ec_sh ho5) rfl), k_pre hK hN hH hw⟩ rfl rfl hl.1 rfl (lv_room (Nat.le_of_ble_eq_true rfl)) dX11_put_28 ⟨Nat.le_refl _, Nat.le_refl _⟩) hH (fun r7 S6 H locs hw hH => ?_)
      refine lv_if_ne (tgt := 37) hx hb dX11_put_31 (by decide) (fun hc8 => ?_) (fun hc8 => ?_)
      · replace hw := hw.2 hc8
        refine lv_aload hx hb dX11_put_37 (lv_at hl 0 rfl) ?_
        obtain ⟨hs9, hw⟩ := hw
        refine gf_sh_1 hx hb hts hiX6 hown hK hn hH hs9 lk1 dX11_put_39 ?_
        obtain ⟨o10, eo10⟩ : ∃ y : Nat, y = (gN S6 o5 1) := ⟨_, rfl⟩
        obtain ⟨ho10, hw⟩ := hw o10 eo10
        rw [← eo10]
        refine lv_iload_n hx hb dX11_put_42 rfl (lv_at hl 3 rfl) ?_
        refine lv_aload hx hb dX11_put_43 (lv_at hl 0 rfl) ?_
        refine lv_iload_n hx hb dX11_put_45 rfl (lv_at hl 4 rfl) ?_
        refine k_afti (va_runV (As := [.int a3]) (rest := [.int a2, .ref (ly o10)]) ⟨hx, hb, hml, hown, hts⟩ (c_X6_narrowed l D kA ly n hn A o5 a3 S6 _) (cwV 1 hts gX11_put_X6_narrowed rfl rfl rfl (by decide +kernel) ⟨(Nat.le_of_ble_eq_true rfl), (Nat.le_of_ble_eq_true rfl)⟩) ⟨k_blind, (k_recv hK hH hs9.2.1 (Ec_sh hs9) rfl), k_pre hK hN hH hw⟩ rfl rfl hl.1 rfl (lv_room (Nat.le_of_ble_eq_true rfl)) dX11_put_46 ⟨Nat.le_refl _, Nat.le_refl _⟩) hH (fun r12 S11 H locs hw hH => ?_)
        obtain ⟨ht15, hw⟩ := hw
        obtain ⟨hi_13, hw⟩ := hw
        refine k_ist hx hb hK hH ht15.2.1 (fun _ => (Ec_it ht15)) hi_13 dX11_put_49 (fun S14 H locs eS14 hH => ?_)
        replace hw := hw S14 eS14
        refine lv_iconst (v := 1) hx hb dX11_put_50 (by decide +kernel) ?_
        exact k_iret hx hb hr hlocks hK hN hH hw dX11_put_51
      · replace hw := hw.1 hc8
        refine lv_bipush (v := -12) hx hb dX11_put_34 (by decide +kernel) ?_
        exact k_iret hx hb hr hlocks hK hN hH hw dX11_put_36
  · replace hw := hw.1 hc3
    refine lv_iconst (v := -1) hx hb dX11_put_7 (by decide +kernel) ?_
    exact k_iret hx hb hr hlocks hK hN hH hw dX11_put_8
def wp_X11_item (n : List Nat) (a1 : Int32) (a2 : Int32) (a3 : Int32) (S : St) (Q : Int32 → St → Prop) : Prop := wp_X11_isSheet a1 S (fun r2 S1 => ((r2 = 0 → Q (-1 : Int32) S1) ∧ (¬ r2 = 0 → wp_X11_isSort a2 S1 (fun r5 S4 => ((r5 = 0 → Q (-1 : Int32) S4) ∧ (¬ r5 = 0 → (vp_in a1 4 ∧ ∀ o8 : Nat, o8 = gN S4 4 a1.toNatClampNeg → (o8 = 0 → Q (-11 : Int32) S4) ∧ (¬ o8 = 0 → isSh n S4 o8 ∧ (((gI S4 o8 0) = a2 → wp_X6_has n o8 a3 S4 (fun r11 S10 => ((r11 = 0 → Q (-12 : Int32) S10) ∧ (¬ r11 = 0 → isSh n S10 o8 ∧ (∀ o14 : Nat, o14 = (gN S10 o8 1) → isIt n S10 o14 ∧ (vp_in a3 (gN S10 o14 0) ∧ Q (gA S10 o14 a3.toNatClampNeg) S10)))))) ∧ (¬ (gI S4 o8 0) = a2 → Q (-13 : Int32) S4))))))))))
set_option maxHeartbeats 4000000 in
set_option maxRecDepth 100000 in
theorem c_X11_item (l : Launch) (D : va_G) (kA : Nat → ClassId) (ly : Nat → Nat) (n : List Nat) (hn : ∀ c, c < 59 → c ∈ n) (A : Nat → Prop) (a1 : Int32) (a2 : Int32) (a3 : Int32) : Ci l yX11_item wsX11_item 1 21 (Gp D (Ec kA ly) ly n A kA) A [.ref (ly 0), .int a1, .int a2, .int a3] (wp_X11_item n a1 a2 a3) := by
  intro S Q
  refine Met.ofW (cc := cX11_item) (maxL := 5) (ret := (some .int)) (by decide) rfl ?_
  intro p e s m args below meth c s₁ B hml hv
  obtain ⟨rfl, ⟨hP, hD, hK, hN⟩, hw⟩ := hv
  have hx := B.exec
  have hb := B.bytes
  have hr := B.returns
  have hts := atoms_spec (ws := wsX11_item) B.pre
  have hown : s.vm.findClass RX11 = some m.cls := findClass_of_methodNamed B.named
  have hlocks := B.notSynchronized
  have hH : Hp D (Ec kA ly) ly n A s.heap S s.heap [] := ⟨hP, hD, va_S.rf⟩
  have hiX11 : ∀ w ∈ u_ws RX11 TX11 12, w ∈ wsX11_item := by decide +kernel
  have hiX6 : ∀ w ∈ u_ws RX6 TX6 2, w ∈ wsX11_item := by decide +kernel
  have lk0 := hts (.fieldLink RX11 29 "SlowPanes" "sheets" "[LSlowPanes$Sheet;") (by decide +kernel)
  have lk1 := hts (.fieldLink RX11 223 "SlowPanes$Sheet" "sort" "I") (by decide +kernel)
  have lk2 := hts (.fieldLink RX11 226 "SlowPanes$Sheet" "items" "[I") (by decide +kernel)
  have hl := lv_entry ([.ref (ly 0), .int a1, .int a2, .int a3]) (n := 5) (Nat.le_of_ble_eq_true rfl)
  rw [lg_entry_eq]
  generalize (lg_sl ([.ref (ly 0), .int a1, .int a2, .int a3]) ++ List.replicate (5 - (lg_sl ([.ref (ly 0), .int a1, .int a2, .int a3])).length) Slot.unset).toArray = ls at hl ⊢
  have hl : lv_has ls 5 [(0, .ref (ly 0)), (1, .int a1), (2, .int a2), (3, .int a3)] := hl
  rw [wp_X11_item] at hw
  refine lv_iload_n hx hb dX11_item_0 rfl (lv_at hl 1 rfl) ?_
  refine k_afti (va_runS (As := [.int a1]) (rest := []) ⟨hx, hb, hml, hown, hts⟩ (c_X11_isSheet l D kA ly n hn A a1 S _) (va_cwS 1 hts gX11_item_X11_isSheet rfl rfl rfl (by decide +kernel) ⟨(Nat.le_of_ble_eq_true rfl), (Nat.le_of_ble_eq_true rfl)⟩) ⟨k_blind, k_pre hK hN hH hw⟩ rfl rfl hl.1 rfl (lv_room (Nat.le_of_ble_eq_true rfl)) dX11_item_1 ⟨Nat.le_refl _, Nat.le_refl _⟩) hH (fun r2 S1 H locs hw hH => ?_)
  refine lv_if_eq (tgt := 14) hx hb dX11_item_4 (by decide) (fun hc3 => ?_) (fun hc3 => ?_)
  · replace hw := hw.1 hc3
    refine lv_iconst (v := -1) hx hb dX11_item_14 (by decide +kernel) ?_
    exact k_iret hx hb hr hlocks hK hN hH hw dX11_item_15
  · replace hw := hw.2 hc3
    refine lv_iload_n hx hb dX11_item_7 rfl (lv_at hl 2 rfl) ?_
    refine k_afti (va_runS (As := [.int a2]) (rest := []) ⟨hx, hb, hml, hown, hts⟩ (c_X11_isSort l D kA ly n hn A a2 S1 _) (va_cwS 1 hts gX11_item_X11_isSort rfl rfl rfl (by decide +kernel) ⟨(Nat.le_of_ble_eq_true rfl), (Nat.le_of_ble_eq_true rfl)⟩) ⟨k_blind, k_pre hK hN hH hw⟩ rfl rfl hl.1 rfl (lv_room (Nat.le_of_ble_eq_true rfl)) dX11_item_8 ⟨Nat.le_refl _, Nat.le_refl _⟩) hH (fun r5 S4 H locs hw hH => ?_)
    refine lv_if_ne (tgt := 16) hx hb dX11_item_11 (by decide) (fun hc6 => ?_) (fun hc6 => ?_)
    · replace hw := hw.2 hc6
      refine lv_aload_n hx hb dX11_item_16 rfl (lv_at hl 0 rfl) ?_
      refine gf_this_3 hx hb hts hiX11 hown hK hn hH lk0 dX11_item_17 ?_
      refine lv_iload_n hx hb dX11_item_20 rfl (lv_at hl 1 rfl) ?_
      obtain ⟨hi_7, hw⟩ := hw
      obtain ⟨o8, eo8⟩ : ∃ y : Nat, y = gN S4 4 a1.toNatClampNeg := ⟨_, rfl⟩
      replace hw := hw o8 eo8
      by_cases hz16 : o8 = 0
      · replace hw := hw.1 hz16
        refine k_ald (t0 := 2) (v := .null) hx hb hK hH (lt_n hn (by decide)) rfl Ec_4 hi_7 (qsN_0 (by rw [← eo8]; exact hz16)) dX11_item_21 ?_
        refine lv_astoreN (lv' := [(4, .null), (0, .ref (ly 0)), (1, .int a1), (2, .int a2), (3, .int a3)]) hx hb dX11_item_22 hl (by decide) rfl (fun ls hl => ?_)
        refine lv_aloadN hx hb dX11_item_24 (lv_at hl 0 rfl) ?_
        refine lv_ifnonnullN hx hb dX11_item_26 ?_
        refine lv_bipush (v := -11) hx hb dX11_item_29 (by decide +kernel) ?_
        exact k_iret hx hb hr hlocks hK hN hH hw dX11_item_31
      · obtain ⟨ho8, hw⟩ := hw.2 hz16
        refine k_ald (t0 := 2) (v := .ref (ly o8)) hx hb hK hH (lt_n hn (by decide)) rfl Ec_4 hi_7 (qsN_1 eo8 hz16) dX11_item_21 ?_
        refine lv_astore (lv' := [(4, .ref (ly o8)), (0, .ref (ly 0)), (1, .int a1), (2, .int a2), (3, .int a3)]) hx hb dX11_item_22 hl (by decide) rfl (fun ls hl => ?_)
        refine lv_aload hx hb dX11_item_24 (lv_at hl 0 rfl) ?_
        refine lv_ifnonnull (tgt := 32) hx hb dX11_item_26 (by decide) ?_
        refine lv_aload hx hb dX11_item_32 (lv_at hl 0 rfl) ?_
        refine gf_sh_0 hx hb hts hiX6 hown hK hn hH ho8 lk1 dX11_item_34 ?_
        refine lv_iload_n hx hb dX11_item_37 rfl (lv_at hl 3 rfl) ?_
        refine lv_icmp_eq (tgt := 44) hx hb dX11_item_38 (by decide) (fun hc9 => ?_) (fun hc9 => ?_)
        · replace hw := hw.1 hc9
          refine lv_aload hx hb dX11_item_44 (lv_at hl 0 rfl) ?_
          refine lv_iload_n hx hb dX11_item_46 rfl (lv_at hl 4 rfl) ?_
          refine k_afti (va_runV (As := [.int a3]) (rest := []) ⟨hx, hb, hml, hown, hts⟩ (c_X6_has l D kA ly n hn A o8 a3 S4 _) (cwV 1 hts gX11_item_X6_has rfl rfl rfl (by decide +kernel) ⟨(Nat.le_of_ble_eq_true rfl), (Nat.le_of_ble_eq_true rfl)⟩) ⟨k_blind, (k_recv hK hH ho8.2.1 (Ec_sh ho8) rfl), k_pre hK hN hH hw⟩ rfl rfl hl.1 rfl (lv_room (Nat.le_of_ble_eq_true rfl)) dX11_item_47 ⟨Nat.le_refl _, Nat.le_refl _⟩) hH (fun r11 S10 H locs hw hH => ?_)
          refine lv_if_ne (tgt := 56) hx hb dX11_item_50 (by decide) (fun hc12 => ?_) (fun hc12 => ?_)
          · replace hw := hw.2 hc12
            refine lv_aload hx hb dX11_item_56 (lv_at hl 0 rfl) ?_
            obtain ⟨hs13, hw⟩ := hw
            refine gf_sh_1 hx hb hts hiX6 hown hK hn hH hs13 lk2 dX11_item_58 ?_
            obtain ⟨o14, eo14⟩ : ∃ y : Nat, y = (gN S10 o8 1) := ⟨_, rfl⟩
            obtain ⟨ho14, hw⟩ := hw o14 eo14
            rw [← eo14]
            refine lv_iload_n hx hb dX11_item_61 rfl (lv_at hl 4 rfl) ?_
            obtain ⟨hi_15, hw⟩ := hw
            refine k_ild hx hb hK hH ho14.2.1 (Ec_it ho14) hi_15 dX11_item_62 ?_
            exact k_iret hx hb hr hlocks hK hN hH hw dX11_item_63
          · replace hw := hw.1 hc12
            refine lv_bipush (v := -12) hx hb dX11_item_53 (by decide +kernel) ?_
            exact k_iret hx hb hr hlocks hK hN hH hw dX11_item_55
        · replace hw := hw.2 hc9
          refine lv_bipush (v := -13) hx hb dX11_item_41 (by decide +kernel) ?_
          exact k_iret hx hb hr hlocks hK hN hH hw dX11_item_43
    · replace hw := hw.1 hc6
      refine lv_iconst (v := -1) hx hb dX11_item_14 (by decide +kernel) ?_
      exact k_iret hx hb hr hlocks hK hN hH hw dX11_item_15
def wp_X11_isShelf (a0 : Int32) (S : St) (Q : Int32 → St → Prop) : Prop := ((a0 < 0 → Q (0 : Int32) S) ∧ (¬ a0 < 0 → (((4 : Int32) ≤ a0 → Q (0 : Int32) S) ∧ (¬ (4 : Int32) ≤ a0 → Q (1 : Int32) S))))
set_option maxHeartbeats 4000000 in
set_option maxRecDepth 100000 in
theorem c_X11_isShelf (l : Launch) (D : va_G) (kA : Nat → ClassId) (ly : Nat → Nat) (n : List Nat) (hn : ∀ c, c < 59 → c ∈ n) (A : Nat → Prop) (a0 : Int32) : Ci l yX11_isShelf wsX11_isShelf 0 0 (Gp D (Ec kA ly) ly n A kA) A [.int a0] (wp_X11_isShelf a0) := by
  intro S Q
  refine Met.ofW (cc := cX11_isShelf) (maxL := 1) (ret := (some .boolean)) (by decide) rfl ?_
  intro p e s m args below meth c s₁ B hml hv
  obtain ⟨rfl, ⟨hP, hD, hK, hN⟩, hw⟩ := hv
  have hx := B.exec
  have hb := B.bytes
  have hr := B.returns
  have hts := atoms_spec (ws := wsX11_isShelf) B.pre
  have hown : s.vm.findClass RX11 = some m.cls := findClass_of_methodNamed B.named
  have hlocks := B.notSynchronized
  have hH : Hp D (Ec kA ly) ly n A s.heap S s.heap [] := ⟨hP, hD, va_S.rf⟩
  have hl := lv_entry ([.int a0]) (n := 1) (Nat.le_of_ble_eq_true rfl)
  rw [lg_entry_eq]
  generalize (lg_sl ([.int a0]) ++ List.replicate (1 - (lg_sl ([.int a0])).length) Slot.unset).toArray = ls at hl ⊢
  have hl : lv_has ls 1 [(0, .int a0)] := hl
  rw [wp_X11_isShelf] at hw
  refine lv_iload_n hx hb dX11_isShelf_0 rfl (lv_at hl 0 rfl) ?_
  refine lv_if_lt (tgt := 13) hx hb dX11_isShelf_1 (by decide) (fun hc1 => ?_) (fun hc1 => ?_)
  · replace hw := hw.1 hc1
    refine lv_iconst (v := 0) hx hb dX11_isShelf_13 (by decide +kernel) ?_
    exact k_zret hx hb hr hlocks hK hN hH rfl hw dX11_isShelf_14
  · replace hw := hw.2 hc1
    refine lv_iload_n hx hb dX11_isShelf_4 rfl (lv_at hl 0 rfl) ?_
    refine lv_iconst (v := 4) hx hb dX11_isShelf_5 (by decide +kernel) ?_
    refine lv_icmp_ge (tgt := 13) hx hb dX11_isShelf_6 (by decide) (fun hc2 => ?_) (fun hc2 => ?_)
    · replace hw := hw.1 hc2
      refine lv_iconst (v := 0) hx hb dX11_isShelf_13 (by decide +kernel) ?_
      exact k_zret hx hb hr hlocks hK hN hH rfl hw dX11_isShelf_14
    · replace hw := hw.2 hc2
      refine lv_iconst (v := 1) hx hb dX11_isShelf_9 (by decide +kernel) ?_
      refine lv_goto (tgt := 14) hx hb dX11_isShelf_10 (by decide) ?_
      exact k_zret hx hb hr hlocks hK hN hH rfl hw dX11_isShelf_14
def wj_X11_shelf_58 (n : List Nat) (a1 : Int32) (a2 : Int32) (a3 : Int32) (Q : Int32 → St → Prop)  (q0_58 : Int32) (q1_58 : Int32) (S_58 : St) : Prop := (vp_in q1_58 4 ∧ ∀ S7 : St, S7 = sA S_58 5 q1_58.toNatClampNeg q0_58 → ((a2 = (1 : Int32) → (vp_in a3 4 ∧ ∀ o12 : Nat, o12 = gN S7 4 a3.toNatClampNeg → (o12 = 0 → ((vp_in a1 4 ∧ ∀ S14 : St, S14 = sN S7 6 a1.toNatClampNeg 0 → Q (1 : Int32) S14))) ∧ (¬ o12 = 0 → isSh n S7 o12 ∧ ((vp_in a1 4 ∧ ∀ S16 : St, S16 = sN S7 6 a1.toNatClampNeg o12 → Q (1 : Int32) S16))))) ∧ (¬ a2 = (1 : Int32) → ((vp_in a1 4 ∧ ∀ S10 : St, S10 = sN S7 6 a1.toNatClampNeg 0 → Q (1 : Int32) S10)))))
def wj_X11_shelf_44 (n : List Nat) (a1 : Int32) (a2 : Int32) (a3 : Int32) (Q : Int32 → St → Prop)   (S_44 : St) : Prop := ((a2 = 0 → wj_X11_shelf_58 n a1 a2 a3 Q a3 a1 S_44) ∧ (¬ a2 = 0 → wj_X11_shelf_58 n a1 a2 a3 Q (-1 : Int32) a1 S_44))
def wj_X11_shelf_30 (n : List Nat) (a1 : Int32) (a2 : Int32) (a3 : Int32) (Q : Int32 → St → Prop)   (S_30 : St) : Prop := ((a2 = (1 : Int32) → wp_X11_isSheet a3 S_30 (fun r21 S20 => ((r21 = 0 → Q (-1 : Int32) S20) ∧ (¬ r21 = 0 → wj_X11_shelf_44 n a1 a2 a3 Q S20)))) ∧ (¬ a2 = (1 : Int32) → wj_X11_shelf_44 n a1 a2 a3 Q S_30))
def wp_X11_shelf (n : List Nat) (a1 : Int32) (a2 : Int32) (a3 : Int32) (S : St) (Q : Int32 → St → Prop) : Prop := wp_X11_isShelf a1 S (fun r2 S1 => ((r2 = 0 → Q (-1 : Int32) S1) ∧ (¬ r2 = 0 → ((a2 < 0 → Q (-1 : Int32) S1) ∧ (¬ a2 < 0 → ((a2 ≤ (2 : Int32) → ((a2 = 0 → wp_X11_isPane a3 S1 (fun r25 S24 => ((r25 = 0 → Q (-1 : Int32) S24) ∧ (¬ r25 = 0 → wj_X11_shelf_30 n a1 a2 a3 Q S24)))) ∧ (¬ a2 = 0 → wj_X11_shelf_30 n a1 a2 a3 Q S1))) ∧ (¬ a2 ≤ (2 : Int32) → Q (-1 : Int32) S1)))))))
set_option maxHeartbeats 4000000 in
set_option maxRecDepth 100000 in
theorem c_X11_shelf (l : Launch) (D : va_G) (kA : Nat → ClassId) (ly : Nat → Nat) (n : List Nat) (hn : ∀ c, c < 59 → c ∈ n) (A : Nat → Prop) (a1 : Int32) (a2 : Int32) (a3 : Int32) : Ci l yX11_shelf wsX11_shelf 1 21 (Gp D (Ec kA ly) ly n A kA) A [.ref (ly 0), .int a1, .int a2, .int a3] (wp_X11_shelf n a1 a2 a3) := by
  intro S Q
  refine Met.ofW (cc := cX11_shelf) (maxL := 4) (ret := (some .int)) (by decide) rfl ?_
  intro p e s m args below meth c s₁ B hml hv
  obtain ⟨rfl, ⟨hP, hD, hK, hN⟩, hw⟩ := hv
  have hx := B.exec
  have hb := B.bytes
  have hr := B.returns
  have hts := atoms_spec (ws := wsX11_shelf) B.pre
  have hown : s.vm.findClass RX11 = some m.cls := findClass_of_methodNamed B.named
  have hlocks := B.notSynchronized
  have hH : Hp D (Ec kA ly) ly n A s.heap S s.heap [] := ⟨hP, hD, va_S.rf⟩
  have hiX11 : ∀ w ∈ u_ws RX11 TX11 12, w ∈ wsX11_shelf := by decide +kernel
  have lk0 := hts (.fieldLink RX11 33 "SlowPanes" "shelfPanes" "[I") (by decide +kernel)
  have lk1 := hts (.fieldLink RX11 36 "SlowPanes" "shelfSheets" "[LSlowPanes$Sheet;") (by decide +kernel)
  have lk2 := hts (.fieldLink RX11 29 "SlowPanes" "sheets" "[LSlowPanes$Sheet;") (by decide +kernel)
  have hl := lv_entry ([.ref (ly 0), .int a1, .int a2, .int a3]) (n := 4) (Nat.le_of_ble_eq_true rfl)
  rw [lg_entry_eq]
  generalize (lg_sl ([.ref (ly 0), .int a1, .int a2, .int a3]) ++ List.replicate (4 - (lg_sl ([.ref (ly 0), .int a1, .int a2, .int a3])).length) Slot.unset).toArray = ls at hl ⊢
  have hl : lv_has ls 4 [(0, .ref (ly 0)), (1, .int a1), (2, .int a2), (3, .int a3)] := hl
  rw [wp_X11_shelf] at hw
  refine lv_iload_n hx hb dX11_shelf_0 rfl (lv_at hl 1 rfl) ?_
  refine k_afti (va_runS (As := [.int a1]) (rest := []) ⟨hx, hb, hml, hown, hts⟩ (c_X11_isShelf l D kA ly n hn A a1 S _) (va_cwS 1 hts gX11_shelf_X11_isShelf rfl rfl rfl (by decide +kernel) ⟨(Nat.le_of_ble_eq_true rfl), (Nat.le_of_ble_eq_true rfl)⟩) ⟨k_blind, k_pre hK hN hH hw⟩ rfl rfl hl.1 rfl (lv_room (Nat.le_of_ble_eq_true rfl)) dX11_shelf_1 ⟨Nat.le_refl _, Nat.le_refl _⟩) hH (fun r2 S1 H locs hw hH => ?_)
  refine lv_if_eq (tgt := 16) hx hb dX11_shelf_4 (by decide) (fun hc3 => ?_) (fun hc3 => ?_)
  · replace hw := hw.1 hc3
    refine lv_iconst (v := -1) hx hb dX11_shelf_16 (by decide +kernel) ?_
    exact k_iret hx hb hr hlocks hK hN hH hw dX11_shelf_17
  · replace hw := hw.2 hc3
    refine lv_iload_n hx hb dX11_shelf_7 rfl (lv_at hl 2 rfl) ?_
    refine lv_if_lt (tgt := 16) hx hb dX11_shelf_8 (by decide) (fun hc4 => ?_) (fun hc4 => ?_)
    · replace hw := hw.1 hc4
      refine lv_iconst (v := -1) hx hb dX11_shelf_16 (by decide +kernel) ?_
      exact k_iret hx hb hr hlocks hK hN hH hw dX11_shelf_17
    · replace hw := hw.2 hc4
      refine lv_iload_n hx hb dX11_shelf_11 rfl (lv_at hl 2 rfl) ?_
      refine lv_iconst (v := 2) hx hb dX11_shelf_12 (by decide +kernel) ?_
      refine lv_icmp_le (tgt := 18) hx hb dX11_shelf_13 (by decide) (fun hc5 => ?_) (fun hc5 => ?_)
      · replace hw := hw.1 hc5
        refine lv_iload_n hx hb dX11_shelf_18 rfl (lv_at hl 2 rfl) ?_
        have J_30 : ∀  (S_30 : St) (H : Heap) (locs : List Loc) (ls : Array Slot), wj_X11_shelf_30 n a1 a2 a3 Q S_30 → Hp D (Ec kA ly) ly n A s.heap S_30 H locs → lv_has ls 4 [(0, .ref (ly 0)), (1, .int a1), (2, .int a2), (3, .int a3)] → W p l e (headSpec wsX11_shelf { frames := 1, cells := 0, slots := 0, locals := 21 }).room s m [.ref (ly 0), .int a1, .int a2, .int a3].toArray below meth c H locs 0 0 (MQ below (va_Qi Q (Gp D (Ec kA ly) ly n A kA) A) [.ref (ly 0), .int a1, .int a2, .int a3].toArray s 0 0 A) (F0 m 30 ls []) := by
          intro S_30 H locs ls hw hH hl
          rw [wj_X11_shelf_30] at hw
          refine lv_iload_n hx hb dX11_shelf_30 rfl (lv_at hl 2 rfl) ?_
          refine lv_iconst (v := 1) hx hb dX11_shelf_31 (by decide +kernel) ?_
          have J_44 : ∀  (S_44 : St) (H : Heap) (locs : List Loc) (ls : Array Slot), wj_X11_shelf_44 n a1 a2 a3 Q S_44 → Hp D (Ec kA ly) ly n A s.heap S_44 H locs → lv_has ls 4 [(0, .ref (ly 0)), (1, .int a1), (2, .int a2), (3, .int a3)] → W p l e (headSpec wsX11_shelf { frames := 1, cells := 0, slots := 0, locals := 21 }).room s m [.ref (ly 0), .int a1, .int a2, .int a3].toArray below meth c H locs 0 0 (MQ below (va_Qi Q (Gp D (Ec kA ly) ly n A kA) A) [.ref (ly 0), .int a1, .int a2, .int a3].toArray s 0 0 A) (F0 m 44 ls []) := by
            intro S_44 H locs ls hw hH hl
            rw [wj_X11_shelf_44] at hw
            refine lv_aload_n hx hb dX11_shelf_44 rfl (lv_at hl 0 rfl) ?_
            refine gf_this_4 hx hb hts hiX11 hown hK hn hH lk0 dX11_shelf_45 ?_
            refine lv_iload_n hx hb dX11_shelf_48 rfl (lv_at hl 1 rfl) ?_
            refine lv_iload_n hx hb dX11_shelf_49 rfl (lv_at hl 2 rfl) ?_
            have J_58 : ∀ (q0_58 : Int32) (q1_58 : Int32) (S_58 : St) (H : Heap) (locs : List Loc) (ls : Array Slot), wj_X11_shelf_58 n a1 a2 a3 Q q0_58 q1_58 S_58 → Hp D (Ec kA ly) ly n A s.heap S_58 H locs → lv_has ls 4 [(0, .ref (ly 0)), (1, .int a1), (2, .int a2), (3, .int a3)] → W p l e (headSpec wsX11_shelf { frames := 1, cells := 0, slots := 0, locals := 21 }).room s m [.ref (ly 0), .int a1, .int a2, .int a3].toArray below meth c H locs 0 0 (MQ below (va_Qi Q (Gp D (Ec kA ly) ly n A kA) A) [.ref (ly 0), .int a1, .int a2, .int a3].toArray s 0 0 A) (F0 m 58 ls [.int q0_58, .int q1_58, .ref (ly 5)]) := by
              intro q0_58 q1_58 S_58 H locs ls hw hH hl
              rw [wj_X11_shelf_58] at hw
              obtain ⟨hi_6, hw⟩ := hw
              refine k_ist hx hb hK hH (lt_n hn (by decide)) (fun _ => Ec_5) hi_6 dX11_shelf_58 (fun S7 H locs eS7 hH => ?_)
              replace hw := hw S7 eS7
              refine lv_aload_n hx hb dX11_shelf_59 rfl (lv_at hl 0 rfl) ?_
              refine gf_this_5 hx hb hts hiX11 hown hK hn hH lk1 dX11_shelf_60 ?_
              refine lv_iload_n hx hb dX11_shelf_63 rfl (lv_at hl 1 rfl) ?_
              refine lv_iload_n hx hb dX11_shelf_64 rfl (lv_at hl 2 rfl) ?_
              refine lv_iconst (v := 1) hx hb dX11_shelf_65 (by decide +kernel) ?_
              refine lv_icmp_ne (tgt := 78) hx hb dX11_shelf_66 (by decide) (fun hc8 => ?_) (fun hc8 => ?_)
              · replace hw := hw.2 hc8
                refine lv_null hx hb dX11_shelf_78 ?_
                obtain ⟨hi_9, hw⟩ := hw
                refine k_astS0 hx hb hK hH (lt_n hn (by decide)) (fun _ => Ec_6) hi_9 dX11_shelf_79 (fun S10 H locs eS10 hH => ?_)
                replace hw := hw S10 eS10
                refine lv_iconst (v := 1) hx hb dX11_shelf_80 (by decide +kernel) ?_
                exact k_iret hx hb hr hlocks hK hN hH hw dX11_shelf_81
              · replace hw := hw.1 hc8
                refine lv_aload_n hx hb dX11_shelf_69 rfl (lv_at hl 0 rfl) ?_
                refine gf_this_3 hx hb hts hiX11 hown hK hn hH lk2 dX11_shelf_70 ?_
                refine lv_iload_n hx hb dX11_shelf_73 rfl (lv_at hl 3 rfl) ?_
                obtain ⟨hi_11, hw⟩ := hw
                obtain ⟨o12, eo12⟩ : ∃ y : Nat, y = gN S7 4 a3.toNatClampNeg := ⟨_, rfl⟩
                replace hw := hw o12 eo12
                by_cases hz17 : o12 = 0
                · replace hw := hw.1 hz17
                  refine k_ald (t0 := 2) (v := .null) hx hb hK hH (lt_n hn (by decide)) rfl Ec_4 hi_11 (qsN_0 (by rw [← eo12]; exact hz17)) dX11_shelf_74 ?_
                  refine lv_goto (tgt := 79) hx hb dX11_shelf_75 (by decide) ?_
                  obtain ⟨hi_13, hw⟩ := hw
                  refine k_astS0 hx hb hK hH (lt_n hn (by decide)) (fun _ => Ec_6) hi_13 dX11_shelf_79 (fun S14 H locs eS14 hH => ?_)
                  replace hw := hw S14 eS14
                  refine lv_iconst (v := 1) hx hb dX11_shelf_80 (by decide +kernel) ?_
                  exact k_iret hx hb hr hlocks hK hN hH hw dX11_shelf_81
                · obtain ⟨ho12, hw⟩ := hw.2 hz17
                  refine k_ald (t0 := 2) (v := .ref (ly o12)) hx hb hK hH (lt_n hn (by decide)) rfl Ec_4 hi_11 (qsN_1 eo12 hz17) dX11_shelf_74 ?_
                  refine lv_goto (tgt := 79) hx hb dX11_shelf_75 (by decide) ?_
                  obtain ⟨hi_15, hw⟩ := hw
                  refine k_astS hx hb hK hH (lt_n hn (by decide)) (fun _ => Ec_6) ho12 hi_15 dX11_shelf_79 (fun S16 H locs eS16 hH => ?_)
                  replace hw := hw S16 eS16
                  refine lv_iconst (v := 1) hx hb dX11_shelf_80 (by decide +kernel) ?_
                  exact k_iret hx hb hr hlocks hK hN hH hw dX11_shelf_81
            refine lv_if_ne (tgt := 57) hx hb dX11_shelf_50 (by decide) (fun hc18 => ?_) (fun hc18 => ?_)
            · replace hw := hw.2 hc18
              refine lv_iconst (v := -1) hx hb dX11_shelf_57 (by decide +kernel) ?_
              exact J_58 (-1 : Int32) a1 S_44 _ _ ls hw hH (lv_sub hl [0, 1, 2, 3] rfl)
            · replace hw := hw.1 hc18
              refine lv_iload_n hx hb dX11_shelf_53 rfl (lv_at hl 3 rfl) ?_
              refine lv_goto (tgt := 58) hx hb dX11_shelf_54 (by decide) ?_
              exact J_58 a3 a1 S_44 _ _ ls hw hH (lv_sub hl [0, 1, 2, 3] rfl)
          refine lv_icmp_ne (tgt := 44) hx hb dX11_shelf_32 (by decide) (fun hc19 => ?_) (fun hc19 => ?_)
          · replace hw := hw.2 hc19
            exact J_44  S_30 _ _ ls hw hH (lv_sub hl [0, 1, 2, 3] rfl)
          · replace hw := hw.1 hc19
            refine lv_iload_n hx hb dX11_shelf_35 rfl (lv_at hl 3 rfl) ?_
            refine k_afti (va_runS (As := [.int a3]) (rest := []) ⟨hx, hb, hml, hown, hts⟩ (c_X11_isSheet l D kA ly n hn A a3 S_30 _) (va_cwS 1 hts gX11_shelf_X11_isSheet rfl rfl rfl (by decide +kernel) ⟨(Nat.le_of_ble_eq_true rfl), (Nat.le_of_ble_eq_true rfl)⟩) ⟨k_blind, k_pre hK hN hH hw⟩ rfl rfl hl.1 rfl (lv_room (Nat.le_of_ble_eq_true rfl)) dX11_shelf_36 ⟨Nat.le_refl _, Nat.le_refl _⟩) hH (fun r21 S20 H locs hw hH => ?_)
            refine lv_if_ne (tgt := 44) hx hb dX11_shelf_39 (by decide) (fun hc22 => ?_) (fun hc22 => ?_)
            · replace hw := hw.2 hc22
              exact J_44  S20 _ _ ls hw hH (lv_sub hl [0, 1, 2, 3] rfl)
            · replace hw := hw.1 hc22
              refine lv_iconst (v := -1) hx hb dX11_shelf_42 (by decide +kernel) ?_
              exact k_iret hx hb hr hlocks hK hN hH hw dX11_shelf_43
        refine lv_if_ne (tgt := 30) hx hb dX11_shelf_19 (by decide) (fun hc23 => ?_) (fun hc23 => ?_)
        · replace hw := hw.2 hc23
          exact J_30  S1 _ _ ls hw hH (lv_sub hl [0, 1, 2, 3] rfl)
        · replace hw := hw.1 hc23
          refine lv_aload_n hx hb dX11_shelf_22 rfl (lv_at hl 0 rfl) ?_
          refine lv_iload_n hx hb dX11_shelf_23 rfl (lv_at hl 3 rfl) ?_
          refine k_afti (va_runV (As := [.int a3]) (rest := []) ⟨hx, hb, hml, hown, hts⟩ (c_X11_isPane l D kA ly n hn A a3 S1 _) (cwV 1 hts gX11_shelf_X11_isPane rfl rfl rfl (by decide +kernel) ⟨(Nat.le_of_ble_eq_true rfl), (Nat.le_of_ble_eq_true rfl)⟩) ⟨k_blind, (k_recv hK hH (lt_n hn (by decide)) Ec_0 rfl), k_pre hK hN hH hw⟩ rfl rfl hl.1 rfl (lv_room (Nat.le_of_ble_eq_true rfl)) dX11_shelf_24 ⟨Nat.le_refl _, Nat.le_refl _⟩) hH (fun r25 S24 H locs hw hH => ?_)
          refine lv_if_eq (tgt := 42) hx hb dX11_shelf_27 (by decide) (fun hc26 => ?_) (fun hc26 => ?_)
          · replace hw := hw.1 hc26
            refine lv_iconst (v := -1) hx hb dX11_shelf_42 (by decide +kernel) ?_
            exact k_iret hx hb hr hlocks hK hN hH hw dX11_shelf_43
          · replace hw := hw.2 hc26
            exact J_30  S24 _ _ ls hw hH (lv_sub hl [0, 1, 2, 3] rfl)
      · replace hw := hw.2 hc5
        refine lv_iconst (v := -1) hx hb dX11_shelf_16 (by decide +kernel) ?_
        exact k_iret hx hb hr hlocks hK hN hH hw dX11_shelf_17
def wp_X11_isUnder (a0 : Int32) (a1 : Int32) (S : St) (Q : Int32 → St → Prop) : Prop := ((a1 = a0 → Q (1 : Int32) S) ∧ (¬ a1 = a0 → ((a1 = 0 → Q (1 : Int32) S) ∧ (¬ a1 = 0 → ((a1 = (1 : Int32) → ((a0 = (2 : Int32) → Q (1 : Int32) S) ∧ (¬ a0 = (2 : Int32) → ((a1 = (3 : Int32) → ((a0 = (4 : Int32) → Q (1 : Int32) S) ∧ (¬ a0 = (4 : Int32) → Q (0 : Int32) S))) ∧ (¬ a1 = (3 : Int32) → Q (0 : Int32) S))))) ∧ (¬ a1 = (1 : Int32) → ((a1 = (3 : Int32) → ((a0 = (4 : Int32) → Q (1 : Int32) S) ∧ (¬ a0 = (4 : Int32) → Q (0 : Int32) S))) ∧ (¬ a1 = (3 : Int32) → Q (0 : Int32) S))))))))
set_option maxHeartbeats 4000000 in
set_option maxRecDepth 100000 in
theorem c_X11_isUnder (l : Launch) (D : va_G) (kA : Nat → ClassId) (ly : Nat → Nat) (n : List Nat) (hn : ∀ c, c < 59 → c ∈ n) (A : Nat → Prop) (a0 : Int32) (a1 : Int32) : Ci l yX11_isUnder wsX11_isUnder 0 0 (Gp D (Ec kA ly) ly n A kA) A [.int a0, .int a1] (wp_X11_isUnder a0 a1) := by
  intro S Q
  refine Met.ofW (cc := cX11_isUnder) (maxL := 2) (ret := (some .boolean)) (by decide) rfl ?_
  intro p e s m args below meth c s₁ B hml hv
  obtain ⟨rfl, ⟨hP, hD, hK, hN⟩, hw⟩ := hv
  have hx := B.exec
  have hb := B.bytes
  have hr := B.returns
  have hts := atoms_spec (ws := wsX11_isUnder) B.pre
  have hown : s.vm.findClass RX11 = some m.cls := findClass_of_methodNamed B.named
  have hlocks := B.notSynchronized
  have hH : Hp D (Ec kA ly) ly n A s.heap S s.heap [] := ⟨hP, hD, va_S.rf⟩
  have hl := lv_entry ([.int a0, .int a1]) (n := 2) (Nat.le_of_ble_eq_true rfl)
  rw [lg_entry_eq]
  generalize (lg_sl ([.int a0, .int a1]) ++ List.replicate (2 - (lg_sl ([.int a0, .int a1])).length) Slot.unset).toArray = ls at hl ⊢
  have hl : lv_has ls 2 [(0, .int a0), (1, .int a1)] := hl
  rw [wp_X11_isUnder] at hw
  refine lv_iload_n hx hb dX11_isUnder_0 rfl (lv_at hl 1 rfl) ?_
  refine lv_iload_n hx hb dX11_isUnder_1 rfl (lv_at hl 0 rfl) ?_
  refine lv_icmp_eq (tgt := 29) hx hb dX11_isUnder_2 (by decide) (fun hc1 => ?_) (fun hc1 => ?_)
  · replace hw := hw.1 hc1
    refine lv_iconst (v := 1) hx hb dX11_isUnder_29 (by decide +kernel) ?_
    refine lv_goto (tgt := 34) hx hb dX11_isUnder_30 (by decide) ?_
    exact k_zret hx hb hr hlocks hK hN hH rfl hw dX11_isUnder_34
  · replace hw := hw.2 hc1
    refine lv_iload_n hx hb dX11_isUnder_5 rfl (lv_at hl 1 rfl) ?_
    refine lv_if_eq (tgt := 29) hx hb dX11_isUnder_6 (by decide) (fun hc2 => ?_) (fun hc2 => ?_)
    · replace hw := hw.1 hc2
      refine lv_iconst (v := 1) hx hb dX11_isUnder_29 (by decide +kernel) ?_
      refine lv_goto (tgt := 34) hx hb dX11_isUnder_30 (by decide) ?_
      exact k_zret hx hb hr hlocks hK hN hH rfl hw dX11_isUnder_34
    · replace hw := hw.2 hc2
      refine lv_iload_n hx hb dX11_isUnder_9 rfl (lv_at hl 1 rfl) ?_
      refine lv_iconst (v := 1) hx hb dX11_isUnder_10 (by decide +kernel) ?_
      refine lv_icmp_ne (tgt := 19) hx hb dX11_isUnder_11 (by decide) (fun hc3 => ?_) (fun hc3 => ?_)
      · replace hw := hw.2 hc3
        refine lv_iload_n hx hb dX11_isUnder_19 rfl (lv_at hl 1 rfl) ?_
        refine lv_iconst (v := 3) hx hb dX11_isUnder_20 (by decide +kernel) ?_
        refine lv_icmp_ne (tgt := 33) hx hb dX11_isUnder_21 (by decide) (fun hc4 => ?_) (fun hc4 => ?_)
        · replace hw := hw.2 hc4
          refine lv_iconst (v := 0) hx hb dX11_isUnder_33 (by decide +kernel) ?_
          exact k_zret hx hb hr hlocks hK hN hH rfl hw dX11_isUnder_34
        · replace hw := hw.1 hc4
          refine lv_iload_n hx hb dX11_isUnder_24 rfl (lv_at hl 0 rfl) ?_
          refine lv_iconst (v := 4) hx hb dX11_isUnder_25 (by decide +kernel) ?_
          refine lv_icmp_ne (tgt := 33) hx hb dX11_isUnder_26 (by decide) (fun hc5 => ?_) (fun hc5 => ?_)
          · replace hw := hw.2 hc5
            refine lv_iconst (v := 0) hx hb dX11_isUnder_33 (by decide +kernel) ?_
            exact k_zret hx hb hr hlocks hK hN hH rfl hw dX11_isUnder_34
          · replace hw := hw.1 hc5
            refine lv_iconst (v := 1) hx hb dX11_isUnder_29 (by decide +kernel) ?_
            refine lv_goto (tgt := 34) hx hb dX11_isUnder_30 (by decide) ?_
            exact k_zret hx hb hr hlocks hK hN hH rfl hw dX11_isUnder_34
      · replace hw := hw.1 hc3
        refine lv_iload_n hx hb dX11_isUnder_14 rfl (lv_at hl 0 rfl) ?_
        refine lv_iconst (v := 2) hx hb dX11_isUnder_15 (by decide +kernel) ?_
        refine lv_icmp_eq (tgt := 29) hx hb dX11_isUnder_16 (by decide) (fun hc6 => ?_) (fun hc6 => ?_)
        · replace hw := hw.1 hc6
          refine lv_iconst (v := 1) hx hb dX11_isUnder_29 (by decide +kernel) ?_
          refine lv_goto (tgt := 34) hx hb dX11_isUnder_30 (by decide) ?_
          exact k_zret hx hb hr hlocks hK hN hH rfl hw dX11_isUnder_34
        · replace hw := hw.2 hc6
          refine lv_iload_n hx hb dX11_isUnder_19 rfl (lv_at hl 1 rfl) ?_
          refine lv_iconst (v := 3) hx hb dX11_isUnder_20 (by decide +kernel) ?_
          refine lv_icmp_ne (tgt := 33) hx hb dX11_isUnder_21 (by decide) (fun hc7 => ?_) (fun hc7 => ?_)
          · replace hw := hw.2 hc7
            refine lv_iconst (v := 0) hx hb dX11_isUnder_33 (by decide +kernel) ?_
            exact k_zret hx hb hr hlocks hK hN hH rfl hw dX11_isUnder_34
          · replace hw := hw.1 hc7
            refine lv_iload_n hx hb dX11_isUnder_24 rfl (lv_at hl 0 rfl) ?_
            refine lv_iconst (v := 4) hx hb dX11_isUnder_25 (by decide +kernel) ?_
            refine lv_icmp_ne (tgt := 33) hx hb dX11_isUnder_26 (by decide) (fun hc8 => ?_) (fun hc8 => ?_)
            · replace hw := hw.2 hc8
              refine lv_iconst (v := 0) hx hb dX11_isUnder_33 (by decide +kernel) ?_
              exact k_zret hx hb hr hlocks hK hN hH rfl hw dX11_isUnder_34
            · replace hw := hw.1 hc8
              refine lv_iconst (v := 1) hx hb dX11_isUnder_29 (by decide +kernel) ?_
              refine lv_goto (tgt := 34) hx hb dX11_isUnder_30 (by decide) ?_
              exact k_zret hx hb hr hlocks hK hN hH rfl hw dX11_isUnder_34
def wj_X11_taken_28 (n : List Nat) (a1 : Int32) (a2 : Int32) (r2 : Int32) (Q : Int32 → St → Prop)   (S_28 : St) : Prop := (vp_in a1 4 ∧ ∀ o7 : Nat, o7 = gN S_28 6 a1.toNatClampNeg → (o7 = 0 → (vp_in a1 4 ∧ (∀ t9 : Int32, t9 = (gA S_28 5 a1.toNatClampNeg) → wp_X11_isPane t9 S_28 (fun r11 S10 => ((r11 = 0 → Q (-11 : Int32) S10) ∧ (¬ r11 = 0 → ((r2 = 0 → Q (-13 : Int32) S10) ∧ (¬ r2 = 0 → (∀ o14 : Nat, o14 = (gN S10 0 8) → isW o14 ∧ (vp_in t9 6 ∧ ∀ o16 : Nat, o16 = gN S10 (o14 + 3) t9.toNatClampNeg → isPn o16 ∧ wp_X11_isUnder (gI S10 o16 2) a2 S10 (fun r18 S17 => ((r18 = 0 → Q (-13 : Int32) S17) ∧ (¬ r18 = 0 → Q t9 S17))))))))))))) ∧ (¬ o7 = 0 → isSh n S_28 o7 ∧ ((r2 = 0 → (((gI S_28 o7 0) = (a2 - (10 : Int32)) → (((1 : Int32) = 0 → Q (-13 : Int32) S_28) ∧ (¬ (1 : Int32) = 0 → (∀ o27 : Nat, o27 = (gN S_28 o7 1) → isIt n S_28 o27 ∧ Q (Int32.ofNat (gN S_28 o27 0)) S_28)))) ∧ (¬ (gI S_28 o7 0) = (a2 - (10 : Int32)) → (((0 : Int32) = 0 → Q (-13 : Int32) S_28) ∧ (¬ (0 : Int32) = 0 → (∀ o25 : Nat, o25 = (gN S_28 o7 1) → isIt n S_28 o25 ∧ Q (Int32.ofNat (gN S_28 o25 0)) S_28)))))) ∧ (¬ r2 = 0 → (((0 : Int32) = 0 → Q (-13 : Int32) S_28) ∧ (¬ (0 : Int32) = 0 → (∀ o22 : Nat, o22 = (gN S_28 o7 1) → isIt n S_28 o22 ∧ Q (Int32.ofNat (gN S_28 o22 0)) S_28)))))))
def wp_X11_taken (n : List Nat) (a1 : Int32) (a2 : Int32) (S : St) (Q : Int32 → St → Prop) : Prop := wp_X11_isKind a2 S (fun r2 S1 => wp_X11_isShelf a1 S1 (fun r4 S3 => ((r4 = 0 → Q (-1 : Int32) S3) ∧ (¬ r4 = 0 → ((r2 = 0 → wp_X11_isSort (a2 - (10 : Int32)) S3 (fun r31 S30 => ((r31 = 0 → Q (-1 : Int32) S30) ∧ (¬ r31 = 0 → wj_X11_taken_28 n a1 a2 r2 Q S30)))) ∧ (¬ r2 = 0 → wj_X11_taken_28 n a1 a2 r2 Q S3))))))
set_option maxHeartbeats 4000000 in
set_option maxRecDepth 100000 in
theorem c_X11_taken (l : Launch) (D : va_G) (kA : Nat → ClassId) (ly : Nat → Nat) (n : List Nat) (hn : ∀ c, c < 59 → c ∈ n) (A : Nat → Prop) (a1 : Int32) (a2 : Int32) : Ci l yX11_taken wsX11_taken 1 21 (Gp D (Ec kA ly) ly n A kA) A [.ref (ly 0), .int a1, .int a2] (wp_X11_taken n a1 a2) := by
  intro S Q
  refine Met.ofW (cc := cX11_taken) (maxL := 6) (ret := (some .int)) (by decide) rfl ?_
  intro p e s m args below meth c s₁ B hml hv
  obtain ⟨rfl, ⟨hP, hD, hK, hN⟩, hw⟩ := hv
  have hx := B.exec
  have hb := B.bytes
  have hr := B.returns
  have hts := atoms_spec (ws := wsX11_taken) B.pre
  have hown : s.vm.findClass RX11 = some m.cls := findClass_of_methodNamed B.named
  have hlocks := B.notSynchronized
  have hH : Hp D (Ec kA ly) ly n A s.heap S s.heap [] := ⟨hP, hD, va_S.rf⟩
  have hiX11 : ∀ w ∈ u_ws RX11 TX11 12, w ∈ wsX11_taken := by decide +kernel
  have hiX10 : ∀ w ∈ u_ws RX10 TX10 6, w ∈ wsX11_taken := by decide +kernel
  have hiX3 : ∀ w ∈ u_ws RX3 TX3 5, w ∈ wsX11_taken := by decide +kernel
  have hiX6 : ∀ w ∈ u_ws RX6 TX6 2, w ∈ wsX11_taken := by decide +kernel
  have lk0 := hts (.fieldLink RX11 36 "SlowPanes" "shelfSheets" "[LSlowPanes$Sheet;") (by decide +kernel)
  have lk1 := hts (.fieldLink RX11 33 "SlowPanes" "shelfPanes" "[I") (by decide +kernel)
  have lk2 := hts (.fieldLink RX11 53 "SlowPanes" "world" "LSlowPanes$World;") (by decide +kernel)
  have lk3 := hts (.fieldLink RX11 124 "SlowPanes$World" "panes" "[LSlowPanes$Pane;") (by decide +kernel)
  have lk4 := hts (.fieldLink RX11 128 "SlowPanes$Pane" "kind" "I") (by decide +kernel)
  have lk5 := hts (.fieldLink RX11 226 "SlowPanes$Sheet" "items" "[I") (by decide +kernel)
  have lk6 := hts (.fieldLink RX11 223 "SlowPanes$Sheet" "sort" "I") (by decide +kernel)
  have hl := lv_entry ([.ref (ly 0), .int a1, .int a2]) (n := 6) (Nat.le_of_ble_eq_true rfl)
  rw [lg_entry_eq]
  generalize (lg_sl ([.ref (ly 0), .int a1, .int a2]) ++ List.replicate (6 - (lg_sl ([.ref (ly 0), .int a1, .int a2])).length) Slot.unset).toArray = ls at hl ⊢
  have hl : lv_has ls 6 [(0, .ref (ly 0)), (1, .int a1), (2, .int a2)] := hl
  rw [wp_X11_taken] at hw
  refine lv_iload_n hx hb dX11_taken_0 rfl (lv_at hl 2 rfl) ?_
  refine k_afti (va_runS (As := [.int a2]) (rest := []) ⟨hx, hb, hml, hown, hts⟩ (c_X11_isKind l D kA ly n hn A a2 S _) (va_cwS 1 hts gX11_taken_X11_isKind rfl rfl rfl (by decide +kernel) ⟨(Nat.le_of_ble_eq_true rfl), (Nat.le_of_ble_eq_true rfl)⟩) ⟨k_blind, k_pre hK hN hH hw⟩ rfl rfl hl.1 rfl (lv_room (Nat.le_of_ble_eq_true rfl)) dX11_taken_1 ⟨Nat.le_refl _, Nat.le_refl _⟩) hH (fun r2 S1 H locs hw hH => ?_)
  refine lv_istore_n (lv' := [(3, .int r2), (0, .ref (ly 0)), (1, .int a1), (2, .int a2)]) hx hb dX11_taken_4 rfl hl (by decide) rfl (fun ls hl => ?_)
  refine lv_iload_n hx hb dX11_taken_5 rfl (lv_at hl 2 rfl) ?_
  refine k_afti (va_runS (As := [.int a1]) (rest := []) ⟨hx, hb, hml, hown, hts⟩ (c_X11_isShelf l D kA ly n hn A a1 S1 _) (va_cwS 1 hts gX11_taken_X11_isShelf rfl rfl rfl (by decide +kernel) ⟨(Nat.le_of_ble_eq_true rfl), (Nat.le_of_ble_eq_true rfl)⟩) ⟨k_blind, k_pre hK hN hH hw⟩ rfl rfl hl.1 rfl (lv_room (Nat.le_of_ble_eq_true rfl)) dX11_taken_6 ⟨Nat.le_refl _, Nat.le_refl _⟩) hH (fun r4 S3 H locs hw hH => ?_)
  refine lv_if_eq (tgt := 26) hx hb dX11_taken_9 (by decide) (fun hc5 => ?_) (fun hc5 => ?_)
  · replace hw := hw.1 hc5
    refine lv_iconst (v := -1) hx hb dX11_taken_26 (by decide +kernel) ?_
    exact k_iret hx hb hr hlocks hK hN hH hw dX11_taken_27
  · replace hw := hw.2 hc5
    refine lv_iload_n hx hb dX11_taken_12 rfl (lv_at hl 0 rfl) ?_
    have J_28 : ∀  (S_28 : St) (H : Heap) (locs : List Loc) (ls : Array Slot), wj_X11_taken_28 n a1 a2 r2 Q S_28 → Hp D (Ec kA ly) ly n A s.heap S_28 H locs → lv_has ls 6 [(0, .ref (ly 0)), (1, .int a1), (2, .int a2), (3, .int r2)] → W p l e (headSpec wsX11_taken { frames := 1, cells := 0, slots := 0, locals := 21 }).room s m [.ref (ly 0), .int a1, .int a2].toArray below meth c H locs 0 0 (MQ below (va_Qi Q (Gp D (Ec kA ly) ly n A kA) A) [.ref (ly 0), .int a1, .int a2].toArray s 0 0 A) (F0 m 28 ls []) := by
      intro S_28 H locs ls hw hH hl
      rw [wj_X11_taken_28] at hw
      refine lv_aload_n hx hb dX11_taken_28 rfl (lv_at hl 0 rfl) ?_
      refine gf_this_5 hx hb hts hiX11 hown hK hn hH lk0 dX11_taken_29 ?_
      refine lv_iload_n hx hb dX11_taken_32 rfl (lv_at hl 1 rfl) ?_
      obtain ⟨hi_6, hw⟩ := hw
      obtain ⟨o7, eo7⟩ : ∃ y : Nat, y = gN S_28 6 a1.toNatClampNeg := ⟨_, rfl⟩
      replace hw := hw o7 eo7
      by_cases hz28 : o7 = 0
      · replace hw := hw.1 hz28
        refine k_ald (t0 := 2) (v := .null) hx hb hK hH (lt_n hn (by decide)) rfl Ec_6 hi_6 (qsN_0 (by rw [← eo7]; exact hz28)) dX11_taken_33 ?_
        refine lv_astoreN (lv' := [(4, .null), (0, .ref (ly 0)), (1, .int a1), (2, .int a2), (3, .int r2)]) hx hb dX11_taken_34 hl (by decide) rfl (fun ls hl => ?_)
        refine lv_aloadN hx hb dX11_taken_36 (lv_at hl 0 rfl) ?_
        refine lv_ifnullN (tgt := 81) hx hb dX11_taken_38 (by decide) ?_
        refine lv_aload_n hx hb dX11_taken_81 rfl (lv_at hl 1 rfl) ?_
        refine gf_this_4 hx hb hts hiX11 hown hK hn hH lk1 dX11_taken_82 ?_
        refine lv_iload_n hx hb dX11_taken_85 rfl (lv_at hl 2 rfl) ?_
        obtain ⟨hi_8, hw⟩ := hw
        refine k_ild hx hb hK hH (lt_n hn (by decide)) Ec_5 hi_8 dX11_taken_86 ?_
        refine lv_topi (fun t9 et9 => ?_)
        replace hw := hw t9 et9
        refine lv_istore (lv' := [(5, .int t9), (4, .null), (0, .ref (ly 0)), (1, .int a1), (2, .int a2), (3, .int r2)]) hx hb dX11_taken_87 hl (by decide) rfl (fun ls hl => ?_)
        refine lv_aload_n hx hb dX11_taken_89 rfl (lv_at hl 2 rfl) ?_
        refine lv_iload hx hb dX11_taken_90 (lv_at hl 0 rfl) ?_
        refine k_afti (va_runV (As := [.int t9]) (rest := []) ⟨hx, hb, hml, hown, hts⟩ (c_X11_isPane l D kA ly n hn A t9 S_28 _) (cwV 1 hts gX11_taken_X11_isPane rfl rfl rfl (by decide +kernel) ⟨(Nat.le_of_ble_eq_true rfl), (Nat.le_of_ble_eq_true rfl)⟩) ⟨k_blind, (k_recv hK hH (lt_n hn (by decide)) Ec_0 rfl), k_pre hK hN hH hw⟩ rfl rfl hl.1 rfl (lv_room (Nat.le_of_ble_eq_true rfl)) dX11_taken_92 ⟨Nat.le_refl _, Nat.le_refl _⟩) hH (fun r11 S10 H locs hw hH => ?_)
        refine lv_if_ne (tgt := 101) hx hb dX11_taken_95 (by decide) (fun hc12 => ?_) (fun hc12 => ?_)
        · replace hw := hw.2 hc12
          refine lv_iload_n hx hb dX11_taken_101 rfl (lv_at hl 5 rfl) ?_
          refine lv_if_eq (tgt := 130) hx hb dX11_taken_102 (by decide) (fun hc13 => ?_) (fun hc13 => ?_)
          · replace hw := hw.1 hc13
            refine lv_bipush (v := -13) hx hb dX11_taken_130 (by decide +kernel) ?_
            exact k_iret hx hb hr hlocks hK hN hH hw dX11_taken_132
          · replace hw := hw.2 hc13
            refine lv_aload_n hx hb dX11_taken_105 rfl (lv_at hl 2 rfl) ?_
            refine gf_this_8 hx hb hts hiX11 hown hK hn hH lk2 dX11_taken_106 ?_
            obtain ⟨o14, eo14⟩ : ∃ y : Nat, y = (gN S10 0 8) := ⟨_, rfl⟩
            obtain ⟨ho14, hw⟩ := hw o14 eo14
            rw [← eo14]
            refine gf_w_2 hx hb hts hiX10 hown hK hn hH ho14 lk3 dX11_taken_109 ?_
            refine lv_iload hx hb dX11_taken_112 (lv_at hl 0 rfl) ?_
            obtain ⟨hi_15, hw⟩ := hw
            obtain ⟨o16, eo16⟩ : ∃ y : Nat, y = gN S10 (o14 + 3) t9.toNatClampNeg := ⟨_, rfl⟩
            obtain ⟨ho16, hw⟩ := hw o16 eo16
            refine k_ald (t0 := 1) (v := .ref (ly o16)) hx hb hK hH (w_lt hn ho14 3 (by decide)) rfl (Ec_wp ho14) hi_15 (by rw [eo16]; rfl) dX11_taken_114 ?_
            refine gf_pn_2 hx hb hts hiX3 hown hK hn hH ho16 lk4 dX11_taken_115 ?_
            refine lv_iload_n hx hb dX11_taken_118 rfl (lv_at hl 4 rfl) ?_
            refine k_afti (va_runS (As := [.int (gI S10 o16 2), .int a2]) (rest := []) ⟨hx, hb, hml, hown, hts⟩ (c_X11_isUnder l D kA ly n hn A (gI S10 o16 2) a2 S10 _) (va_cwS 2 hts gX11_taken_X11_isUnder rfl rfl rfl (by decide +kernel) ⟨(Nat.le_of_ble_eq_true rfl), (Nat.le_of_ble_eq_true rfl)⟩) ⟨k_blind, k_pre hK hN hH hw⟩ rfl rfl hl.1 rfl (lv_room (Nat.le_of_ble_eq_true rfl)) dX11_taken_119 ⟨Nat.le_refl _, Nat.le_refl _⟩) hH (fun r18 S17 H locs hw hH => ?_)
            refine lv_if_eq (tgt := 130) hx hb dX11_taken_122 (by decide) (fun hc19 => ?_) (fun hc19 => ?_)
            · replace hw := hw.1 hc19
              refine lv_bipush (v := -13) hx hb dX11_taken_130 (by decide +kernel) ?_
              exact k_iret hx hb hr hlocks hK hN hH hw dX11_taken_132
            · replace hw := hw.2 hc19
              refine lv_iload hx hb dX11_taken_125 (lv_at hl 0 rfl) ?_
              refine lv_goto (tgt := 132) hx hb dX11_taken_127 (by decide) ?_
              exact k_iret hx hb hr hlocks hK hN hH hw dX11_taken_132
        · replace hw := hw.1 hc12
          refine lv_bipush (v := -11) hx hb dX11_taken_98 (by decide +kernel) ?_
          exact k_iret hx hb hr hlocks hK hN hH hw dX11_taken_100
      · obtain ⟨ho7, hw⟩ := hw.2 hz28
        refine k_ald (t0 := 2) (v := .ref (ly o7)) hx hb hK hH (lt_n hn (by decide)) rfl Ec_6 hi_6 (qsN_1 eo7 hz28) dX11_taken_33 ?_
        refine lv_astore (lv' := [(4, .ref (ly o7)), (0, .ref (ly 0)), (1, .int a1), (2, .int a2), (3, .int r2)]) hx hb dX11_taken_34 hl (by decide) rfl (fun ls hl => ?_)
        refine lv_aload hx hb dX11_taken_36 (lv_at hl 0 rfl) ?_
        refine lv_ifnull hx hb dX11_taken_38 ?_
        refine lv_iload_n hx hb dX11_taken_41 rfl (lv_at hl 4 rfl) ?_
        refine lv_if_ne (tgt := 61) hx hb dX11_taken_42 (by decide) (fun hc20 => ?_) (fun hc20 => ?_)
        · replace hw := hw.2 hc20
          refine lv_iconst (v := 0) hx hb dX11_taken_61 (by decide +kernel) ?_
          refine lv_istore (lv' := [(5, .int (0 : Int32)), (4, .ref (ly o7)), (0, .ref (ly 0)), (1, .int a1), (2, .int a2), (3, .int r2)]) hx hb dX11_taken_62 hl (by decide) rfl (fun ls hl => ?_)
          refine lv_iload hx hb dX11_taken_64 (lv_at hl 0 rfl) ?_
          refine lv_if_eq (tgt := 78) hx hb dX11_taken_66 (by decide) (fun hc21 => ?_) (fun hc21 => ?_)
          · replace hw := hw.1 hc21
            refine lv_bipush (v := -13) hx hb dX11_taken_78 (by decide +kernel) ?_
            exact k_iret hx hb hr hlocks hK hN hH hw dX11_taken_80
          · replace hw := hw.2 hc21
            refine lv_aload hx hb dX11_taken_69 (lv_at hl 1 rfl) ?_
            refine gf_sh_1 hx hb hts hiX6 hown hK hn hH ho7 lk5 dX11_taken_71 ?_
            obtain ⟨o22, eo22⟩ : ∃ y : Nat, y = (gN S_28 o7 1) := ⟨_, rfl⟩
            obtain ⟨ho22, hw⟩ := hw o22 eo22
            rw [← eo22]
            refine k_alen (t0 := 0) hx hb hK hH ho22.2.1 rfl (Ec_it ho22) rfl dX11_taken_74 ?_
            refine lv_goto (tgt := 80) hx hb dX11_taken_75 (by decide) ?_
            exact k_iret hx hb hr hlocks hK hN hH hw dX11_taken_80
        · replace hw := hw.1 hc20
          refine lv_aload hx hb dX11_taken_45 (lv_at hl 0 rfl) ?_
          refine gf_sh_0 hx hb hts hiX6 hown hK hn hH ho7 lk6 dX11_taken_47 ?_
          refine lv_iload_n hx hb dX11_taken_50 rfl (lv_at hl 3 rfl) ?_
          refine lv_bipush (v := 10) hx hb dX11_taken_51 (by decide +kernel) ?_
          refine lv_isub hx hb dX11_taken_53 ?_
          refine lv_icmp_ne (tgt := 61) hx hb dX11_taken_54 (by decide) (fun hc23 => ?_) (fun hc23 => ?_)
          · replace hw := hw.2 hc23
            refine lv_iconst (v := 0) hx hb dX11_taken_61 (by decide +kernel) ?_
            refine lv_istore (lv' := [(5, .int (0 : Int32)), (4, .ref (ly o7)), (0, .ref (ly 0)), (1, .int a1), (2, .int a2), (3, .int r2)]) hx hb dX11_taken_62 hl (by decide) rfl (fun ls hl => ?_)
            refine lv_iload hx hb dX11_taken_64 (lv_at hl 0 rfl) ?_
            refine lv_if_eq (tgt := 78) hx hb dX11_taken_66 (by decide) (fun hc24 => ?_) (fun hc24 => ?_)
            · replace hw := hw.1 hc24
              refine lv_bipush (v := -13) hx hb dX11_taken_78 (by decide +kernel) ?_
              exact k_iret hx hb hr hlocks hK hN hH hw dX11_taken_80
            · replace hw := hw.2 hc24
              refine lv_aload hx hb dX11_taken_69 (lv_at hl 1 rfl) ?_
              refine gf_sh_1 hx hb hts hiX6 hown hK hn hH ho7 lk5 dX11_taken_71 ?_
              obtain ⟨o25, eo25⟩ : ∃ y : Nat, y = (gN S_28 o7 1) := ⟨_, rfl⟩
              obtain ⟨ho25, hw⟩ := hw o25 eo25
              rw [← eo25]
              refine k_alen (t0 := 0) hx hb hK hH ho25.2.1 rfl (Ec_it ho25) rfl dX11_taken_74 ?_
              refine lv_goto (tgt := 80) hx hb dX11_taken_75 (by decide) ?_
              exact k_iret hx hb hr hlocks hK hN hH hw dX11_taken_80
          · replace hw := hw.1 hc23
            refine lv_iconst (v := 1) hx hb dX11_taken_57 (by decide +kernel) ?_
            refine lv_goto (tgt := 62) hx hb dX11_taken_58 (by decide) ?_
            refine lv_istore (lv' := [(5, .int (1 : Int32)), (4, .ref (ly o7)), (0, .ref (ly 0)), (1, .int a1), (2, .int a2), (3, .int r2)]) hx hb dX11_taken_62 hl (by decide) rfl (fun ls hl => ?_)
            refine lv_iload hx hb dX11_taken_64 (lv_at hl 0 rfl) ?_
            refine lv_if_eq (tgt := 78) hx hb dX11_taken_66 (by decide) (fun hc26 => ?_) (fun hc26 => ?_)
            · replace hw := hw.1 hc26
              refine lv_bipush (v := -13) hx hb dX11_taken_78 (by decide +kernel) ?_
              exact k_iret hx hb hr hlocks hK hN hH hw dX11_taken_80
            · replace hw := hw.2 hc26
              refine lv_aload hx hb dX11_taken_69 (lv_at hl 1 rfl) ?_
              refine gf_sh_1 hx hb hts hiX6 hown hK hn hH ho7 lk5 dX11_taken_71 ?_
              obtain ⟨o27, eo27⟩ : ∃ y : Nat, y = (gN S_28 o7 1) := ⟨_, rfl⟩
              obtain ⟨ho27, hw⟩ := hw o27 eo27
              rw [← eo27]
              refine k_alen (t0 := 0) hx hb hK hH ho27.2.1 rfl (Ec_it ho27) rfl dX11_taken_74 ?_
              refine lv_goto (tgt := 80) hx hb dX11_taken_75 (by decide) ?_
              exact k_iret hx hb hr hlocks hK hN hH hw dX11_taken_80
    refine lv_if_ne (tgt := 28) hx hb dX11_taken_13 (by decide) (fun hc29 => ?_) (fun hc29 => ?_)
    · replace hw := hw.2 hc29
      exact J_28  S3 _ _ ls hw hH (lv_sub hl [1, 2, 3, 0] rfl)
    · replace hw := hw.1 hc29
      refine lv_iload_n hx hb dX11_taken_16 rfl (lv_at hl 3 rfl) ?_
      refine lv_bipush (v := 10) hx hb dX11_taken_17 (by decide +kernel) ?_
      refine lv_isub hx hb dX11_taken_19 ?_
      refine k_afti (va_runS (As := [.int (a2 - (10 : Int32))]) (rest := []) ⟨hx, hb, hml, hown, hts⟩ (c_X11_isSort l D kA ly n hn A (a2 - (10 : Int32)) S3 _) (va_cwS 1 hts gX11_taken_X11_isSort rfl rfl rfl (by decide +kernel) ⟨(Nat.le_of_ble_eq_true rfl), (Nat.le_of_ble_eq_true rfl)⟩) ⟨k_blind, k_pre hK hN hH hw⟩ rfl rfl hl.1 rfl (lv_room (Nat.le_of_ble_eq_true rfl)) dX11_taken_20 ⟨Nat.le_refl _, Nat.le_refl _⟩) hH (fun r31 S30 H locs hw hH => ?_)
      refine lv_if_ne (tgt := 28) hx hb dX11_taken_23 (by decide) (fun hc32 => ?_) (fun hc32 => ?_)
      · replace hw := hw.2 hc32
        exact J_28  S30 _ _ ls hw hH (lv_sub hl [1, 2, 3, 0] rfl)
      · replace hw := hw.1 hc32
        refine lv_iconst (v := -1) hx hb dX11_taken_26 (by decide +kernel) ?_
        exact k_iret hx hb hr hlocks hK hN hH hw dX11_taken_27
def wp_X11_trace (a1 : Int32) (S : St) (Q : Int32 → St → Prop) : Prop := ((a1 < 0 → Q (-3 : Int32) S) ∧ (¬ a1 < 0 → ((a1 < (gI S 7 1) → (vp_in a1 30 ∧ Q (gA S 8 a1.toNatClampNeg) S)) ∧ (¬ a1 < (gI S 7 1) → Q (-3 : Int32) S))))
set_option maxHeartbeats 4000000 in
set_option maxRecDepth 100000 in
theorem c_X11_trace (l : Launch) (D : va_G) (kA : Nat → ClassId) (ly : Nat → Nat) (n : List Nat) (hn : ∀ c, c < 59 → c ∈ n) (A : Nat → Prop) (a1 : Int32) : Ci l yX11_trace wsX11_trace 0 0 (Gp D (Ec kA ly) ly n A kA) A [.ref (ly 0), .int a1] (wp_X11_trace a1) := by
  intro S Q
  refine Met.ofW (cc := cX11_trace) (maxL := 2) (ret := (some .int)) (by decide) rfl ?_
  intro p e s m args below meth c s₁ B hml hv
  obtain ⟨rfl, ⟨hP, hD, hK, hN⟩, hw⟩ := hv
  have hx := B.exec
  have hb := B.bytes
  have hr := B.returns
  have hts := atoms_spec (ws := wsX11_trace) B.pre
  have hown : s.vm.findClass RX11 = some m.cls := findClass_of_methodNamed B.named
  have hlocks := B.notSynchronized
  have hH : Hp D (Ec kA ly) ly n A s.heap S s.heap [] := ⟨hP, hD, va_S.rf⟩
  have hiX11 : ∀ w ∈ u_ws RX11 TX11 12, w ∈ wsX11_trace := by decide +kernel
  have hiX9 : ∀ w ∈ u_ws RX9 TX9 3, w ∈ wsX11_trace := by decide +kernel
  have lk0 := hts (.fieldLink RX11 42 "SlowPanes" "trace" "LSlowPanes$Trace;") (by decide +kernel)
  have lk1 := hts (.fieldLink RX11 272 "SlowPanes$Trace" "count" "I") (by decide +kernel)
  have lk2 := hts (.fieldLink RX11 273 "SlowPanes$Trace" "bodies" "[I") (by decide +kernel)
  have hl := lv_entry ([.ref (ly 0), .int a1]) (n := 2) (Nat.le_of_ble_eq_true rfl)
  rw [lg_entry_eq]
  generalize (lg_sl ([.ref (ly 0), .int a1]) ++ List.replicate (2 - (lg_sl ([.ref (ly 0), .int a1])).length) Slot.unset).toArray = ls at hl ⊢
  have hl : lv_has ls 2 [(0, .ref (ly 0)), (1, .int a1)] := hl
  rw [wp_X11_trace] at hw
  refine lv_iload_n hx hb dX11_trace_0 rfl (lv_at hl 1 rfl) ?_
  refine lv_if_lt (tgt := 15) hx hb dX11_trace_1 (by decide) (fun hc1 => ?_) (fun hc1 => ?_)
  · replace hw := hw.1 hc1
    refine lv_bipush (v := -3) hx hb dX11_trace_15 (by decide +kernel) ?_
    refine lv_goto (tgt := 29) hx hb dX11_trace_17 (by decide) ?_
    exact k_iret hx hb hr hlocks hK hN hH hw dX11_trace_29
  · replace hw := hw.2 hc1
    refine lv_iload_n hx hb dX11_trace_4 rfl (lv_at hl 1 rfl) ?_
    refine lv_aload_n hx hb dX11_trace_5 rfl (lv_at hl 0 rfl) ?_
    refine gf_this_6 hx hb hts hiX11 hown hK hn hH lk0 dX11_trace_6 ?_
    refine gf_tr_1 hx hb hts hiX9 hown hK hn hH lk1 dX11_trace_9 ?_
    refine lv_icmp_lt (tgt := 20) hx hb dX11_trace_12 (by decide) (fun hc2 => ?_) (fun hc2 => ?_)
    · replace hw := hw.1 hc2
      refine lv_aload_n hx hb dX11_trace_20 rfl (lv_at hl 0 rfl) ?_
      refine gf_this_6 hx hb hts hiX11 hown hK hn hH lk0 dX11_trace_21 ?_
      refine gf_tr_0 hx hb hts hiX9 hown hK hn hH lk2 dX11_trace_24 ?_
      refine lv_iload_n hx hb dX11_trace_27 rfl (lv_at hl 1 rfl) ?_
      obtain ⟨hi_3, hw⟩ := hw
      refine k_ild hx hb hK hH (lt_n hn (by decide)) Ec_8 hi_3 dX11_trace_28 ?_
      exact k_iret hx hb hr hlocks hK hN hH hw dX11_trace_29
    · replace hw := hw.2 hc2
      refine lv_bipush (v := -3) hx hb dX11_trace_15 (by decide +kernel) ?_
      refine lv_goto (tgt := 29) hx hb dX11_trace_17 (by decide) ?_
      exact k_iret hx hb hr hlocks hK hN hH hw dX11_trace_29
