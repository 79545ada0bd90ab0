def wp_X11_isPane (a1 : Int32) (S : St) (Q : Int32 → St → Prop) : Prop := ((a1 < 0 → Q (0 : Int32) S) ∧ (¬ a1 < 0 → (∀ o2 : Nat, o2 = (gN S 0 8) → isW o2 ∧ (((gI S o2 3) ≤ a1 → Q (0 : Int32) S) ∧ (¬ (gI S o2 3) ≤ a1 → Q (1 : Int32) S)))))
set_option maxHeartbeats 4000000 in
set_option maxRecDepth 100000 in
theorem c_X11_isPane (l : Launch) (D : va_G) (kA : Nat → ClassId) (ly : Nat → Nat) (n : List Nat) (hn : ∀ c, c < 59 → c ∈ n) (A : Nat → Prop) (a1 : Int32) : Ci l yX11_isPane wsX11_isPane 0 0 (Gp D (Ec kA ly) ly n A kA) A [.ref (ly 0), .int a1] (wp_X11_isPane a1) := by
  intro S Q
  refine Met.ofW (cc := cX11_isPane) (maxL := 2) (ret := (some .boolean)) (by decide) rfl ?_
  intro p e s m args below meth c s₁ B hml hv
  obtain ⟨rfl, ⟨hP, hD, hK, hN⟩, hw⟩ := hv
  have hx := B.exec
  have hb := B.bytes
  have hr := B.returns
  have hts := atoms_spec (ws := wsX11_isPane) B.pre
  have hown : s.vm.findClass RX11 = some m.cls := findClass_of_methodNamed B.named
  have hlocks := B.notSynchronized
  have hH : Hp D (Ec kA ly) ly n A s.heap S s.heap [] := ⟨hP, hD, va_S.rf⟩
  have hiX11 : ∀ w ∈ u_ws RX11 TX11 12, w ∈ wsX11_isPane := by decide +kernel
  have hiX10 : ∀ w ∈ u_ws RX10 TX10 6, w ∈ wsX11_isPane := by decide +kernel
  have lk0 := hts (.fieldLink RX11 53 "SlowPanes" "world" "LSlowPanes$World;") (by decide +kernel)
  have lk1 := hts (.fieldLink RX11 84 "SlowPanes$World" "count" "I") (by decide +kernel)
  have hl := lv_entry ([.ref (ly 0), .int a1]) (n := 2) (Nat.le_of_ble_eq_true rfl)
  rw [lg_entry_eq]
  generalize (lg_sl ([.ref (ly 0), .int a1]) ++ List.replicate (2 - (lg_sl ([.ref (ly 0), .int a1])).length) Slot.unset).toArray = ls at hl ⊢
  have hl : lv_has ls 2 [(0, .ref (ly 0)), (1, .int a1)] := hl
  rw [wp_X11_isPane] at hw
  refine lv_iload_n hx hb dX11_isPane_0 rfl (lv_at hl 1 rfl) ?_
  refine lv_if_lt (tgt := 19) hx hb dX11_isPane_1 (by decide) (fun hc1 => ?_) (fun hc1 => ?_)
  · replace hw := hw.1 hc1
    refine lv_iconst (v := 0) hx hb dX11_isPane_19 (by decide +kernel) ?_
    exact k_zret hx hb hr hlocks hK hN hH rfl hw dX11_isPane_20
  · replace hw := hw.2 hc1
    refine lv_iload_n hx hb dX11_isPane_4 rfl (lv_at hl 1 rfl) ?_
    refine lv_aload_n hx hb dX11_isPane_5 rfl (lv_at hl 0 rfl) ?_
    refine gf_this_8 hx hb hts hiX11 hown hK hn hH lk0 dX11_isPane_6 ?_
    obtain ⟨o2, eo2⟩ : ∃ y : Nat, y = (gN S 0 8) := ⟨_, rfl⟩
    obtain ⟨ho2, hw⟩ := hw o2 eo2
    rw [← eo2]
    refine gf_w_3 hx hb hts hiX10 hown hK hn hH ho2 lk1 dX11_isPane_9 ?_
    refine lv_icmp_ge (tgt := 19) hx hb dX11_isPane_12 (by decide) (fun hc3 => ?_) (fun hc3 => ?_)
    · replace hw := hw.1 hc3
      refine lv_iconst (v := 0) hx hb dX11_isPane_19 (by decide +kernel) ?_
      exact k_zret hx hb hr hlocks hK hN hH rfl hw dX11_isPane_20
    · replace hw := hw.2 hc3
      refine lv_iconst (v := 1) hx hb dX11_isPane_15 (by decide +kernel) ?_
      refine lv_goto (tgt := 20) hx hb dX11_isPane_16 (by decide) ?_
      exact k_zret hx hb hr hlocks hK hN hH rfl hw dX11_isPane_20
def wp_X11_paneOf (a1 : Int32) (a2 : Int32) (S : St) (Q : Int32 → St → Prop) : Prop := wp_X11_isPane a1 S (fun r2 S1 => ((r2 = 0 → Q (-1 : Int32) S1) ∧ (¬ r2 = 0 → (∀ o4 : Nat, o4 = (gN S1 0 8) → isW o4 ∧ (vp_in a1 6 ∧ ∀ o6 : Nat, o6 = gN S1 (o4 + 3) a1.toNatClampNeg → isPn o6 ∧ ((a2 = 0 → Q (gI S1 o6 2) S1) ∧ (¬ a2 = 0 → ((a2 = 1 → Q (gI S1 o6 3) S1) ∧ (¬ a2 = 1 → ((a2 = 2 → wp_X3_placeTold o6 S1 (fun r11 S10 => Q r11 S10)) ∧ (¬ a2 = 2 → ((a2 = 3 → wp_X10_shownBy o4 o6 S1 (fun r14 S13 => Q r14 S13)) ∧ (¬ a2 = 3 → ((a2 = 4 → (((50 : Int32) ≤ (gI S1 o4 4) → Q (0 : Int32) S1) ∧ (¬ (50 : Int32) ≤ (gI S1 o4 4) → wp_X3_movesOn o6 (gI S1 o4 4) S1 (fun r18 S17 => ((r18 = 0 → Q (0 : Int32) S17) ∧ (¬ r18 = 0 → Q (1 : Int32) S17)))))) ∧ (¬ a2 = 4 → Q (-1 : Int32) S1)))))))))))))))
set_option maxHeartbeats 4000000 in
set_option maxRecDepth 100000 in
theorem c_X11_paneOf (l : Launch) (D : va_G) (kA : Nat → ClassId) (ly : Nat → Nat) (n : List Nat) (hn : ∀ c, c < 59 → c ∈ n) (A : Nat → Prop) (a1 : Int32) (a2 : Int32) : Ci l yX11_paneOf wsX11_paneOf 3 64 (Gp D (Ec kA ly) ly n A kA) A [.ref (ly 0), .int a1, .int a2] (wp_X11_paneOf a1 a2) := by
  intro S Q
  refine Met.ofW (cc := cX11_paneOf) (maxL := 4) (ret := (some .int)) (by decide) rfl ?_
  intro p e s m args below meth c s₁ B hml hv
  obtain ⟨rfl, ⟨hP, hD, hK, hN⟩, hw⟩ := hv
  have hx := B.exec
  have hb := B.bytes
  have hr := B.returns
  have hts := atoms_spec (ws := wsX11_paneOf) B.pre
  have hown : s.vm.findClass RX11 = some m.cls := findClass_of_methodNamed B.named
  have hlocks := B.notSynchronized
  have hH : Hp D (Ec kA ly) ly n A s.heap S s.heap [] := ⟨hP, hD, va_S.rf⟩
  have hiX11 : ∀ w ∈ u_ws RX11 TX11 12, w ∈ wsX11_paneOf := by decide +kernel
  have hiX10 : ∀ w ∈ u_ws RX10 TX10 6, w ∈ wsX11_paneOf := by decide +kernel
  have hiX3 : ∀ w ∈ u_ws RX3 TX3 5, w ∈ wsX11_paneOf := by decide +kernel
  have lk0 := hts (.fieldLink RX11 53 "SlowPanes" "world" "LSlowPanes$World;") (by decide +kernel)
  have lk1 := hts (.fieldLink RX11 124 "SlowPanes$World" "panes" "[LSlowPanes$Pane;") (by decide +kernel)
  have lk2 := hts (.fieldLink RX11 128 "SlowPanes$Pane" "kind" "I") (by decide +kernel)
  have lk3 := hts (.fieldLink RX11 131 "SlowPanes$Pane" "count" "I") (by decide +kernel)
  have lk4 := hts (.fieldLink RX11 140 "SlowPanes$World" "today" "I") (by decide +kernel)
  have hl := lv_entry ([.ref (ly 0), .int a1, .int a2]) (n := 4) (Nat.le_of_ble_eq_true rfl)
  rw [lg_entry_eq]
  generalize (lg_sl ([.ref (ly 0), .int a1, .int a2]) ++ List.replicate (4 - (lg_sl ([.ref (ly 0), .int a1, .int a2])).length) Slot.unset).toArray = ls at hl ⊢
  have hl : lv_has ls 4 [(0, .ref (ly 0)), (1, .int a1), (2, .int a2)] := hl
  rw [wp_X11_paneOf] at hw
  refine lv_aload_n hx hb dX11_paneOf_0 rfl (lv_at hl 0 rfl) ?_
  refine lv_iload_n hx hb dX11_paneOf_1 rfl (lv_at hl 1 rfl) ?_
  refine k_afti (va_runV (As := [.int a1]) (rest := []) ⟨hx, hb, hml, hown, hts⟩ (c_X11_isPane l D kA ly n hn A a1 S _) (cwV 1 hts gX11_paneOf_X11_isPane rfl rfl rfl (by decide +kernel) ⟨(Nat.le_of_ble_eq_true rfl), (Nat.le_of_ble_eq_true rfl)⟩) ⟨k_blind, (k_recv hK hH (lt_n hn (by decide)) Ec_0 rfl), k_pre hK hN hH hw⟩ rfl rfl hl.1 rfl (lv_room (Nat.le_of_ble_eq_true rfl)) dX11_paneOf_2 ⟨Nat.le_refl _, Nat.le_refl _⟩) hH (fun r2 S1 H locs hw hH => ?_)
  refine lv_if_ne (tgt := 10) hx hb dX11_paneOf_5 (by decide) (fun hc3 => ?_) (fun hc3 => ?_)
  · replace hw := hw.2 hc3
    refine lv_aload_n hx hb dX11_paneOf_10 rfl (lv_at hl 0 rfl) ?_
    refine gf_this_8 hx hb hts hiX11 hown hK hn hH lk0 dX11_paneOf_11 ?_
    obtain ⟨o4, eo4⟩ : ∃ y : Nat, y = (gN S1 0 8) := ⟨_, rfl⟩
    obtain ⟨ho4, hw⟩ := hw o4 eo4
    rw [← eo4]
    refine gf_w_2 hx hb hts hiX10 hown hK hn hH ho4 lk1 dX11_paneOf_14 ?_
    refine lv_iload_n hx hb dX11_paneOf_17 rfl (lv_at hl 1 rfl) ?_
    obtain ⟨hi_5, hw⟩ := hw
    obtain ⟨o6, eo6⟩ : ∃ y : Nat, y = gN S1 (o4 + 3) a1.toNatClampNeg := ⟨_, rfl⟩
    obtain ⟨ho6, hw⟩ := hw o6 eo6
    refine k_ald (t0 := 1) (v := .ref (ly o6)) hx hb hK hH (w_lt hn ho4 3 (by decide)) rfl (Ec_wp ho4) hi_5 (by rw [eo6]; rfl) dX11_paneOf_18 ?_
    refine lv_astore_n (lv' := [(3, .ref (ly o6)), (0, .ref (ly 0)), (1, .int a1), (2, .int a2)]) hx hb dX11_paneOf_19 rfl hl (by decide) rfl (fun ls hl => ?_)
    refine lv_iload_n hx hb dX11_paneOf_20 rfl (lv_at hl 3 rfl) ?_
    by_cases hc7 : a2 = 0
    · replace hw := hw.1 hc7
      refine lv_tableIn (tgt := 56) hx hb dX11_paneOf_21 (by rw [hc7]; first | done | decide) (by rw [hc7]; first | done | decide) (by rw [hc7]; first | done | rfl) (by decide) ?_
      refine lv_aload_n hx hb dX11_paneOf_56 rfl (lv_at hl 0 rfl) ?_
      refine gf_pn_2 hx hb hts hiX3 hown hK hn hH ho6 lk2 dX11_paneOf_57 ?_
      exact k_iret hx hb hr hlocks hK hN hH hw dX11_paneOf_60
    · replace hw := hw.2 hc7
      by_cases hc8 : a2 = 1
      · replace hw := hw.1 hc8
        refine lv_tableIn (tgt := 61) hx hb dX11_paneOf_21 (by rw [hc8]; first | done | decide) (by rw [hc8]; first | done | decide) (by rw [hc8]; first | done | rfl) (by decide) ?_
        refine lv_aload_n hx hb dX11_paneOf_61 rfl (lv_at hl 0 rfl) ?_
        refine gf_pn_3 hx hb hts hiX3 hown hK hn hH ho6 lk3 dX11_paneOf_62 ?_
        exact k_iret hx hb hr hlocks hK hN hH hw dX11_paneOf_65
      · replace hw := hw.2 hc8
        by_cases hc9 : a2 = 2
        · replace hw := hw.1 hc9
          refine lv_tableIn (tgt := 66) hx hb dX11_paneOf_21 (by rw [hc9]; first | done | decide) (by rw [hc9]; first | done | decide) (by rw [hc9]; first | done | rfl) (by decide) ?_
          refine lv_aload_n hx hb dX11_paneOf_66 rfl (lv_at hl 0 rfl) ?_
          refine k_afti (va_runV (As := []) (rest := []) ⟨hx, hb, hml, hown, hts⟩ (c_X3_placeTold l D kA ly n hn A o6 S1 _) (cwV 0 hts gX11_paneOf_X3_placeTold rfl rfl rfl (by decide +kernel) ⟨(Nat.le_of_ble_eq_true rfl), (Nat.le_of_ble_eq_true rfl)⟩) ⟨k_blind, (k_recv hK hH (pn_lt hn ho6) (Ec_pn ho6) rfl), k_pre hK hN hH hw⟩ rfl rfl hl.1 rfl (lv_room (Nat.le_of_ble_eq_true rfl)) dX11_paneOf_67 ⟨Nat.le_refl _, Nat.le_refl _⟩) hH (fun r11 S10 H locs hw hH => ?_)
          exact k_iret hx hb hr hlocks hK hN hH hw dX11_paneOf_70
        · replace hw := hw.2 hc9
          by_cases hc12 : a2 = 3
          · replace hw := hw.1 hc12
            refine lv_tableIn (tgt := 71) hx hb dX11_paneOf_21 (by rw [hc12]; first | done | decide) (by rw [hc12]; first | done | decide) (by rw [hc12]; first | done | rfl) (by decide) ?_
            refine lv_aload_n hx hb dX11_paneOf_71 rfl (lv_at hl 1 rfl) ?_
            refine gf_this_8 hx hb hts hiX11 hown hK hn hH lk0 dX11_paneOf_72 ?_
            rw [← eo4]
            refine lv_aload_n hx hb dX11_paneOf_75 rfl (lv_at hl 0 rfl) ?_
            refine k_afti (va_runV (As := [.ref (ly o6)]) (rest := []) ⟨hx, hb, hml, hown, hts⟩ (c_X10_shownBy l D kA ly n hn A o4 o6 S1 _) (cwV 1 hts gX11_paneOf_X10_shownBy rfl rfl rfl (by decide +kernel) ⟨(Nat.le_of_ble_eq_true rfl), (Nat.le_of_ble_eq_true rfl)⟩) ⟨k_blind, (k_recv hK hH (w_lt0 hn ho4) (Ec_w ho4) rfl), k_pre hK hN hH hw⟩ rfl rfl hl.1 rfl (lv_room (Nat.le_of_ble_eq_true rfl)) dX11_paneOf_76 ⟨Nat.le_refl _, Nat.le_refl _⟩) hH (fun r14 S13 H locs hw hH => ?_)
            exact k_iret hx hb hr hlocks hK hN hH hw dX11_paneOf_79
          · replace hw := hw.2 hc12
            by_cases hc15 : a2 = 4
            · replace hw := hw.1 hc15
              refine lv_tableIn (tgt := 80) hx hb dX11_paneOf_21 (by rw [hc15]; first | done | decide) (by rw [hc15]; first | done | decide) (by rw [hc15]; first | done | rfl) (by decide) ?_
              refine lv_aload_n hx hb dX11_paneOf_80 rfl (lv_at hl 1 rfl) ?_
              refine gf_this_8 hx hb hts hiX11 hown hK hn hH lk0 dX11_paneOf_81 ?_
              rw [← eo4]
              refine gf_w_4 hx hb hts hiX10 hown hK hn hH ho4 lk4 dX11_paneOf_84 ?_
              refine lv_bipush (v := 50) hx hb dX11_paneOf_87 (by decide +kernel) ?_
              refine lv_icmp_ge (tgt := 110) hx hb dX11_paneOf_89 (by decide) (fun hc16 => ?_) (fun hc16 => ?_)
              · replace hw := hw.1 hc16
                refine lv_iconst (v := 0) hx hb dX11_paneOf_110 (by decide +kernel) ?_
                exact k_iret hx hb hr hlocks hK hN hH hw dX11_paneOf_111
              · replace hw := hw.2 hc16
                refine lv_aload_n hx hb dX11_paneOf_92 rfl (lv_at hl 0 rfl) ?_
                refine lv_aload_n hx hb dX11_paneOf_93 rfl (lv_at hl 1 rfl) ?_
                refine gf_this_8 hx hb hts hiX11 hown hK hn hH lk0 dX11_paneOf_94 ?_
                rw [← eo4]
                refine gf_w_4 hx hb hts hiX10 hown hK hn hH ho4 lk4 dX11_paneOf_97 ?_
                refine k_afti (va_runV (As := [.int (gI S1 o4 4)]) (rest := []) ⟨hx, hb, hml, hown, hts⟩ (c_X3_movesOn l D kA ly n hn A o6 (gI S1 o4 4) S1 _) (cwV 1 hts gX11_paneOf_X3_movesOn rfl rfl rfl (by decide +kernel) ⟨(Nat.le_of_ble_eq_true rfl), (Nat.le_of_ble_eq_true rfl)⟩) ⟨k_blind, (k_recv hK hH (pn_lt hn ho6) (Ec_pn ho6) rfl), k_pre hK hN hH hw⟩ rfl rfl hl.1 rfl (lv_room (Nat.le_of_ble_eq_true rfl)) dX11_paneOf_100 ⟨Nat.le_refl _, Nat.le_refl _⟩) hH (fun r18 S17 H locs hw hH => ?_)
                refine lv_if_eq (tgt := 110) hx hb dX11_paneOf_103 (by decide) (fun hc19 => ?_) (fun hc19 => ?_)
                · replace hw := hw.1 hc19
                  refine lv_iconst (v := 0) hx hb dX11_paneOf_110 (by decide +kernel) ?_
                  exact k_iret hx hb hr hlocks hK hN hH hw dX11_paneOf_111
                · replace hw := hw.2 hc19
                  refine lv_iconst (v := 1) hx hb dX11_paneOf_106 (by decide +kernel) ?_
                  refine lv_goto (tgt := 111) hx hb dX11_paneOf_107 (by decide) ?_
                  exact k_iret hx hb hr hlocks hK hN hH hw dX11_paneOf_111
            · replace hw := hw.2 hc15
              refine lv_tableOut (tgt := 112) hx hb dX11_paneOf_21 (tb_out5_0 hc7 hc8 hc9 hc12 hc15) (by decide) ?_
              refine lv_iconst (v := -1) hx hb dX11_paneOf_112 (by decide +kernel) ?_
              exact k_iret hx hb hr hlocks hK hN hH hw dX11_paneOf_113
  · replace hw := hw.1 hc3
    refine lv_iconst (v := -1) hx hb dX11_paneOf_8 (by decide +kernel) ?_
    exact k_iret hx hb hr hlocks hK hN hH hw dX11_paneOf_9
def wp_X11_glimpse (a1 : Int32) (a2 : Int32) (S : St) (Q : Int32 → St → Prop) : Prop := wp_X11_isPane a1 S (fun r2 S1 => ((r2 = 0 → Q (-1 : Int32) S1) ∧ (¬ r2 = 0 → (∀ o4 : Nat, o4 = (gN S1 0 8) → isW o4 ∧ (vp_in a1 6 ∧ ∀ o6 : Nat, o6 = gN S1 (o4 + 3) a1.toNatClampNeg → isPn o6 ∧ ((a2 < 0 → Q (-3 : Int32) S1) ∧ (¬ a2 < 0 → ((a2 < (gI S1 o6 3) → wp_X3_glimpseAt o6 a2 S1 (fun r10 S9 => Q r10 S9)) ∧ (¬ a2 < (gI S1 o6 3) → Q (-3 : Int32) S1)))))))))
set_option maxHeartbeats 4000000 in
set_option maxRecDepth 100000 in
theorem c_X11_glimpse (l : Launch) (D : va_G) (kA : Nat → ClassId) (ly : Nat → Nat) (n : List Nat) (hn : ∀ c, c < 59 → c ∈ n) (A : Nat → Prop) (a1 : Int32) (a2 : Int32) : Ci l yX11_glimpse wsX11_glimpse 1 21 (Gp D (Ec kA ly) ly n A kA) A [.ref (ly 0), .int a1, .int a2] (wp_X11_glimpse a1 a2) := by
  intro S Q
  refine Met.ofW (cc := cX11_glimpse) (maxL := 4) (ret := (some .int)) (by decide) rfl ?_
  intro p e s m args below meth c s₁ B hml hv
  obtain ⟨rfl, ⟨hP, hD, hK, hN⟩, hw⟩ := hv
  have hx := B.exec
  have hb := B.bytes
  have hr := B.returns
  have hts := atoms_spec (ws := wsX11_glimpse) B.pre
  have hown : s.vm.findClass RX11 = some m.cls := findClass_of_methodNamed B.named
  have hlocks := B.notSynchronized
  have hH : Hp D (Ec kA ly) ly n A s.heap S s.heap [] := ⟨hP, hD, va_S.rf⟩
  have hiX11 : ∀ w ∈ u_ws RX11 TX11 12, w ∈ wsX11_glimpse := by decide +kernel
  have hiX10 : ∀ w ∈ u_ws RX10 TX10 6, w ∈ wsX11_glimpse := by decide +kernel
  have hiX3 : ∀ w ∈ u_ws RX3 TX3 5, w ∈ wsX11_glimpse := by decide +kernel
  have lk0 := hts (.fieldLink RX11 53 "SlowPanes" "world" "LSlowPanes$World;") (by decide +kernel)
  have lk1 := hts (.fieldLink RX11 124 "SlowPanes$World" "panes" "[LSlowPanes$Pane;") (by decide +kernel)
  have lk2 := hts (.fieldLink RX11 131 "SlowPanes$Pane" "count" "I") (by decide +kernel)
  have hl := lv_entry ([.ref (ly 0), .int a1, .int a2]) (n := 4) (Nat.le_of_ble_eq_true rfl)
  rw [lg_entry_eq]
  generalize (lg_sl ([.ref (ly 0), .int a1, .int a2]) ++ List.replicate (4 - (lg_sl ([.ref (ly 0), .int a1, .int a2])).length) Slot.unset).toArray = ls at hl ⊢
  have hl : lv_has ls 4 [(0, .ref (ly 0)), (1, .int a1), (2, .int a2)] := hl
  rw [wp_X11_glimpse] at hw
  refine lv_aload_n hx hb dX11_glimpse_0 rfl (lv_at hl 0 rfl) ?_
  refine lv_iload_n hx hb dX11_glimpse_1 rfl (lv_at hl 1 rfl) ?_
  refine k_afti (va_runV (As := [.int a1]) (rest := []) ⟨hx, hb, hml, hown, hts⟩ (c_X11_isPane l D kA ly n hn A a1 S _) (cwV 1 hts gX11_glimpse_X11_isPane rfl rfl rfl (by decide +kernel) ⟨(Nat.le_of_ble_eq_true rfl), (Nat.le_of_ble_eq_true rfl)⟩) ⟨k_blind, (k_recv hK hH (lt_n hn (by decide)) Ec_0 rfl), k_pre hK hN hH hw⟩ rfl rfl hl.1 rfl (lv_room (Nat.le_of_ble_eq_true rfl)) dX11_glimpse_2 ⟨Nat.le_refl _, Nat.le_refl _⟩) hH (fun r2 S1 H locs hw hH => ?_)
  refine lv_if_ne (tgt := 10) hx hb dX11_glimpse_5 (by decide) (fun hc3 => ?_) (fun hc3 => ?_)
  · replace hw := hw.2 hc3
    refine lv_aload_n hx hb dX11_glimpse_10 rfl (lv_at hl 0 rfl) ?_
    refine gf_this_8 hx hb hts hiX11 hown hK hn hH lk0 dX11_glimpse_11 ?_
    obtain ⟨o4, eo4⟩ : ∃ y : Nat, y = (gN S1 0 8) := ⟨_, rfl⟩
    obtain ⟨ho4, hw⟩ := hw o4 eo4
    rw [← eo4]
    refine gf_w_2 hx hb hts hiX10 hown hK hn hH ho4 lk1 dX11_glimpse_14 ?_
    refine lv_iload_n hx hb dX11_glimpse_17 rfl (lv_at hl 1 rfl) ?_
    obtain ⟨hi_5, hw⟩ := hw
    obtain ⟨o6, eo6⟩ : ∃ y : Nat, y = gN S1 (o4 + 3) a1.toNatClampNeg := ⟨_, rfl⟩
    obtain ⟨ho6, hw⟩ := hw o6 eo6
    refine k_ald (t0 := 1) (v := .ref (ly o6)) hx hb hK hH (w_lt hn ho4 3 (by decide)) rfl (Ec_wp ho4) hi_5 (by rw [eo6]; rfl) dX11_glimpse_18 ?_
    refine lv_astore_n (lv' := [(3, .ref (ly o6)), (0, .ref (ly 0)), (1, .int a1), (2, .int a2)]) hx hb dX11_glimpse_19 rfl hl (by decide) rfl (fun ls hl => ?_)
    refine lv_iload_n hx hb dX11_glimpse_20 rfl (lv_at hl 3 rfl) ?_
    refine lv_if_lt (tgt := 32) hx hb dX11_glimpse_21 (by decide) (fun hc7 => ?_) (fun hc7 => ?_)
    · replace hw := hw.1 hc7
      refine lv_bipush (v := -3) hx hb dX11_glimpse_32 (by decide +kernel) ?_
      exact k_iret hx hb hr hlocks hK hN hH hw dX11_glimpse_34
    · replace hw := hw.2 hc7
      refine lv_iload_n hx hb dX11_glimpse_24 rfl (lv_at hl 3 rfl) ?_
      refine lv_aload_n hx hb dX11_glimpse_25 rfl (lv_at hl 0 rfl) ?_
      refine gf_pn_3 hx hb hts hiX3 hown hK hn hH ho6 lk2 dX11_glimpse_26 ?_
      refine lv_icmp_lt (tgt := 35) hx hb dX11_glimpse_29 (by decide) (fun hc8 => ?_) (fun hc8 => ?_)
      · replace hw := hw.1 hc8
        refine lv_aload_n hx hb dX11_glimpse_35 rfl (lv_at hl 0 rfl) ?_
        refine lv_iload_n hx hb dX11_glimpse_36 rfl (lv_at hl 3 rfl) ?_
        refine k_afti (va_runV (As := [.int a2]) (rest := []) ⟨hx, hb, hml, hown, hts⟩ (c_X3_glimpseAt l D kA ly n hn A o6 a2 S1 _) (cwV 1 hts gX11_glimpse_X3_glimpseAt rfl rfl rfl (by decide +kernel) ⟨(Nat.le_of_ble_eq_true rfl), (Nat.le_of_ble_eq_true rfl)⟩) ⟨k_blind, (k_recv hK hH (pn_lt hn ho6) (Ec_pn ho6) rfl), k_pre hK hN hH hw⟩ rfl rfl hl.1 rfl (lv_room (Nat.le_of_ble_eq_true rfl)) dX11_glimpse_37 ⟨Nat.le_refl _, Nat.le_refl _⟩) hH (fun r10 S9 H locs hw hH => ?_)
        exact k_iret hx hb hr hlocks hK hN hH hw dX11_glimpse_40
      · replace hw := hw.2 hc8
        refine lv_bipush (v := -3) hx hb dX11_glimpse_32 (by decide +kernel) ?_
        exact k_iret hx hb hr hlocks hK hN hH hw dX11_glimpse_34
  · replace hw := hw.1 hc3
    refine lv_iconst (v := -1) hx hb dX11_glimpse_8 (by decide +kernel) ?_
    exact k_iret hx hb hr hlocks hK hN hH hw dX11_glimpse_9
def wj_X11_hang_22 (a1 : Int32) (a2 : Int32) (Q : Int32 → St → Prop)   (S_22 : St) : Prop := (∀ o6 : Nat, o6 = (gN S_22 0 8) → isW o6 ∧ (vp_in a1 6 ∧ ∀ o8 : Nat, o8 = gN S_22 (o6 + 3) a1.toNatClampNeg → isPn o8 ∧ wp_X3_placeTold o8 S_22 (fun r10 S9 => (∀ S11 : St, S11 = sI S9 o8 4 a2 → Q r10 S11))))
def wp_X11_hang (a1 : Int32) (a2 : Int32) (S : St) (Q : Int32 → St → Prop) : Prop := wp_X11_isPane a1 S (fun r2 S1 => ((r2 = 0 → Q (-1 : Int32) S1) ∧ (¬ r2 = 0 → wp_X11_isPlace a2 S1 (fun r5 S4 => ((r5 = 0 → ((a2 = (4 : Int32) → wj_X11_hang_22 a1 a2 Q S4) ∧ (¬ a2 = (4 : Int32) → Q (-1 : Int32) S4))) ∧ (¬ r5 = 0 → wj_X11_hang_22 a1 a2 Q S4))))))
set_option maxHeartbeats 4000000 in
set_option maxRecDepth 100000 in
theorem c_X11_hang (l : Launch) (D : va_G) (kA : Nat → ClassId) (ly : Nat → Nat) (n : List Nat) (hn : ∀ c, c < 59 → c ∈ n) (A : Nat → Prop) (a1 : Int32) (a2 : Int32) : Ci l yX11_hang wsX11_hang 1 21 (Gp D (Ec kA ly) ly n A kA) A [.ref (ly 0), .int a1, .int a2] (wp_X11_hang a1 a2) := by
  intro S Q
  refine Met.ofW (cc := cX11_hang) (maxL := 5) (ret := (some .int)) (by decide) rfl ?_
  intro p e s m args below meth c s₁ B hml hv
  obtain ⟨rfl, ⟨hP, hD, hK, hN⟩, hw⟩ := hv
  have hx := B.exec
  have hb := B.bytes
  have hr := B.returns
  have hts := atoms_spec (ws := wsX11_hang) B.pre
  have hown : s.vm.findClass RX11 = some m.cls := findClass_of_methodNamed B.named
  have hlocks := B.notSynchronized
  have hH : Hp D (Ec kA ly) ly n A s.heap S s.heap [] := ⟨hP, hD, va_S.rf⟩
  have hiX11 : ∀ w ∈ u_ws RX11 TX11 12, w ∈ wsX11_hang := by decide +kernel
  have hiX10 : ∀ w ∈ u_ws RX10 TX10 6, w ∈ wsX11_hang := by decide +kernel
  have hiX3 : ∀ w ∈ u_ws RX3 TX3 5, w ∈ wsX11_hang := by decide +kernel
  have lk0 := hts (.fieldLink RX11 53 "SlowPanes" "world" "LSlowPanes$World;") (by decide +kernel)
  have lk1 := hts (.fieldLink RX11 124 "SlowPanes$World" "panes" "[LSlowPanes$Pane;") (by decide +kernel)
  have lk2 := hts (.fieldLink RX11 150 "SlowPanes$Pane" "place" "I") (by decide +kernel)
  have hl := lv_entry ([.ref (ly 0), .int a1, .int a2]) (n := 5) (Nat.le_of_ble_eq_true rfl)
  rw [lg_entry_eq]
  generalize (lg_sl ([.ref (ly 0), .int a1, .int a2]) ++ List.replicate (5 - (lg_sl ([.ref (ly 0), .int a1, .int a2])).length) Slot.unset).toArray = ls at hl ⊢
  have hl : lv_has ls 5 [(0, .ref (ly 0)), (1, .int a1), (2, .int a2)] := hl
  rw [wp_X11_hang] at hw
  refine lv_aload_n hx hb dX11_hang_0 rfl (lv_at hl 0 rfl) ?_
  refine lv_iload_n hx hb dX11_hang_1 rfl (lv_at hl 1 rfl) ?_
  refine k_afti (va_runV (As := [.int a1]) (rest := []) ⟨hx, hb, hml, hown, hts⟩ (c_X11_isPane l D kA ly n hn A a1 S _) (cwV 1 hts gX11_hang_X11_isPane rfl rfl rfl (by decide +kernel) ⟨(Nat.le_of_ble_eq_true rfl), (Nat.le_of_ble_eq_true rfl)⟩) ⟨k_blind, (k_recv hK hH (lt_n hn (by decide)) Ec_0 rfl), k_pre hK hN hH hw⟩ rfl rfl hl.1 rfl (lv_room (Nat.le_of_ble_eq_true rfl)) dX11_hang_2 ⟨Nat.le_refl _, Nat.le_refl _⟩) hH (fun r2 S1 H locs hw hH => ?_)
  refine lv_if_eq (tgt := 20) hx hb dX11_hang_5 (by decide) (fun hc3 => ?_) (fun hc3 => ?_)
  · replace hw := hw.1 hc3
    refine lv_iconst (v := -1) hx hb dX11_hang_20 (by decide +kernel) ?_
    exact k_iret hx hb hr hlocks hK hN hH hw dX11_hang_21
  · replace hw := hw.2 hc3
    refine lv_iload_n hx hb dX11_hang_8 rfl (lv_at hl 2 rfl) ?_
    refine k_afti (va_runS (As := [.int a2]) (rest := []) ⟨hx, hb, hml, hown, hts⟩ (c_X11_isPlace l D kA ly n hn A a2 S1 _) (va_cwS 1 hts gX11_hang_X11_isPlace rfl rfl rfl (by decide +kernel) ⟨(Nat.le_of_ble_eq_true rfl), (Nat.le_of_ble_eq_true rfl)⟩) ⟨k_blind, k_pre hK hN hH hw⟩ rfl rfl hl.1 rfl (lv_room (Nat.le_of_ble_eq_true rfl)) dX11_hang_9 ⟨Nat.le_refl _, Nat.le_refl _⟩) hH (fun r5 S4 H locs hw hH => ?_)
    have J_22 : ∀  (S_22 : St) (H : Heap) (locs : List Loc) (ls : Array Slot), wj_X11_hang_22 a1 a2 Q S_22 → Hp D (Ec kA ly) ly n A s.heap S_22 H locs → lv_has ls 5 [(0, .ref (ly 0)), (1, .int a1), (2, .int a2)] → W p l e (headSpec wsX11_hang { frames := 1, cells := 0, slots := 0, locals := 21 }).room s m [.ref (ly 0), .int a1, .int a2].toArray below meth c H locs 0 0 (MQ below (va_Qi Q (Gp D (Ec kA ly) ly n A kA) A) [.ref (ly 0), .int a1, .int a2].toArray s 0 0 A) (F0 m 22 ls []) := by
      intro S_22 H locs ls hw hH hl
      rw [wj_X11_hang_22] at hw
      refine lv_aload_n hx hb dX11_hang_22 rfl (lv_at hl 0 rfl) ?_
      refine gf_this_8 hx hb hts hiX11 hown hK hn hH lk0 dX11_hang_23 ?_
      obtain ⟨o6, eo6⟩ : ∃ y : Nat, y = (gN S_22 0 8) := ⟨_, rfl⟩
      obtain ⟨ho6, hw⟩ := hw o6 eo6
      rw [← eo6]
      refine gf_w_2 hx hb hts hiX10 hown hK hn hH ho6 lk1 dX11_hang_26 ?_
      refine lv_iload_n hx hb dX11_hang_29 rfl (lv_at hl 1 rfl) ?_
      obtain ⟨hi_7, hw⟩ := hw
      obtain ⟨o8, eo8⟩ : ∃ y : Nat, y = gN S_22 (o6 + 3) a1.toNatClampNeg := ⟨_, rfl⟩
      obtain ⟨ho8, hw⟩ := hw o8 eo8
      refine k_ald (t0 := 1) (v := .ref (ly o8)) hx hb hK hH (w_lt hn ho6 3 (by decide)) rfl (Ec_wp ho6) hi_7 (by rw [eo8]; rfl) dX11_hang_30 ?_
      refine lv_astore_n (lv' := [(3, .ref (ly o8)), (0, .ref (ly 0)), (1, .int a1), (2, .int a2)]) hx hb dX11_hang_31 rfl hl (by decide) rfl (fun ls hl => ?_)
      refine lv_aload_n hx hb dX11_hang_32 rfl (lv_at hl 0 rfl) ?_
      refine k_afti (va_runV (As := []) (rest := []) ⟨hx, hb, hml, hown, hts⟩ (c_X3_placeTold l D kA ly n hn A o8 S_22 _) (cwV 0 hts gX11_hang_X3_placeTold rfl rfl rfl (by decide +kernel) ⟨(Nat.le_of_ble_eq_true rfl), (Nat.le_of_ble_eq_true rfl)⟩) ⟨k_blind, (k_recv hK hH (pn_lt hn ho8) (Ec_pn ho8) rfl), k_pre hK hN hH hw⟩ rfl rfl hl.1 rfl (lv_room (Nat.le_of_ble_eq_true rfl)) dX11_hang_33 ⟨Nat.le_refl _, Nat.le_refl _⟩) hH (fun r10 S9 H locs hw hH => ?_)
      refine lv_istore (lv' := [(4, .int r10), (3, .ref (ly o8)), (0, .ref (ly 0)), (1, .int a1), (2, .int a2)]) hx hb dX11_hang_36 hl (by decide) rfl (fun ls hl => ?_)
      refine lv_aload_n hx hb dX11_hang_38 rfl (lv_at hl 1 rfl) ?_
      refine lv_iload_n hx hb dX11_hang_39 rfl (lv_at hl 4 rfl) ?_
      refine pf_pn_4 hx hb hts hiX3 hown hK hn hH ho8 lk2 dX11_hang_40 (fun S11 H locs eS11 hH => ?_)
      replace hw := hw S11 eS11
      refine lv_iload hx hb dX11_hang_43 (lv_at hl 0 rfl) ?_
      exact k_iret hx hb hr hlocks hK hN hH hw dX11_hang_45
    refine lv_if_ne (tgt := 22) hx hb dX11_hang_12 (by decide) (fun hc12 => ?_) (fun hc12 => ?_)
    · replace hw := hw.2 hc12
      exact J_22  S4 _ _ ls hw hH (lv_sub hl [0, 1, 2] rfl)
    · replace hw := hw.1 hc12
      refine lv_iload_n hx hb dX11_hang_15 rfl (lv_at hl 2 rfl) ?_
      refine lv_iconst (v := 4) hx hb dX11_hang_16 (by decide +kernel) ?_
      refine lv_icmp_eq (tgt := 22) hx hb dX11_hang_17 (by decide) (fun hc13 => ?_) (fun hc13 => ?_)
      · replace hw := hw.1 hc13
        exact J_22  S4 _ _ ls hw hH (lv_sub hl [0, 1, 2] rfl)
      · replace hw := hw.2 hc13
        refine lv_iconst (v := -1) hx hb dX11_hang_20 (by decide +kernel) ?_
        exact k_iret hx hb hr hlocks hK hN hH hw dX11_hang_21
def wp_X11_cast (a1 : Int32) (a2 : Int32) (S : St) (Q : Int32 → St → Prop) : Prop := wp_X11_isPane a1 S (fun r2 S1 => ((r2 = 0 → Q (-1 : Int32) S1) ∧ (¬ r2 = 0 → wp_X11_isKind a2 S1 (fun r5 S4 => ((r5 = 0 → Q (-1 : Int32) S4) ∧ (¬ r5 = 0 → (∀ o7 : Nat, o7 = (gN S4 0 8) → isW o7 ∧ (vp_in a1 6 ∧ ∀ o9 : Nat, o9 = gN S4 (o7 + 3) a1.toNatClampNeg → isPn o9 ∧ (∀ t10 : Int32, t10 = (gI S4 o9 2) → (∀ S11 : St, S11 = sI S4 o9 2 a2 → Q t10 S11))))))))))
set_option maxHeartbeats 4000000 in
set_option maxRecDepth 100000 in
theorem c_X11_cast (l : Launch) (D : va_G) (kA : Nat → ClassId) (ly : Nat → Nat) (n : List Nat) (hn : ∀ c, c < 59 → c ∈ n) (A : Nat → Prop) (a1 : Int32) (a2 : Int32) : Ci l yX11_cast wsX11_cast 1 21 (Gp D (Ec kA ly) ly n A kA) A [.ref (ly 0), .int a1, .int a2] (wp_X11_cast a1 a2) := by
  intro S Q
  refine Met.ofW (cc := cX11_cast) (maxL := 5) (ret := (some .int)) (by decide) rfl ?_
  intro p e s m args below meth c s₁ B hml hv
  obtain ⟨rfl, ⟨hP, hD, hK, hN⟩, hw⟩ := hv
  have hx := B.exec
  have hb := B.bytes
  have hr := B.returns
  have hts := atoms_spec (ws := wsX11_cast) B.pre
  have hown : s.vm.findClass RX11 = some m.cls := findClass_of_methodNamed B.named
  have hlocks := B.notSynchronized
  have hH : Hp D (Ec kA ly) ly n A s.heap S s.heap [] := ⟨hP, hD, va_S.rf⟩
  have hiX11 : ∀ w ∈ u_ws RX11 TX11 12, w ∈ wsX11_cast := by decide +kernel
  have hiX10 : ∀ w ∈ u_ws RX10 TX10 6, w ∈ wsX11_cast := by decide +kernel
  have hiX3 : ∀ w ∈ u_ws RX3 TX3 5, w ∈ wsX11_cast := by decide +kernel
  have lk0 := hts (.fieldLink RX11 53 "SlowPanes" "world" "LSlowPanes$World;") (by decide +kernel)
  have lk1 := hts (.fieldLink RX11 124 "SlowPanes$World" "panes" "[LSlowPanes$Pane;") (by decide +kernel)
  have lk2 := hts (.fieldLink RX11 128 "SlowPanes$Pane" "kind" "I") (by decide +kernel)
  have hl := lv_entry ([.ref (ly 0), .int a1, .int a2]) (n := 5) (Nat.le_of_ble_eq_true rfl)
  rw [lg_entry_eq]
  generalize (lg_sl ([.ref (ly 0), .int a1, .int a2]) ++ List.replicate (5 - (lg_sl ([.ref (ly 0), .int a1, .int a2])).length) Slot.unset).toArray = ls at hl ⊢
  have hl : lv_has ls 5 [(0, .ref (ly 0)), (1, .int a1), (2, .int a2)] := hl
  rw [wp_X11_cast] at hw
  refine lv_aload_n hx hb dX11_cast_0 rfl (lv_at hl 0 rfl) ?_
  refine lv_iload_n hx hb dX11_cast_1 rfl (lv_at hl 1 rfl) ?_
  refine k_afti (va_runV (As := [.int a1]) (rest := []) ⟨hx, hb, hml, hown, hts⟩ (c_X11_isPane l D kA ly n hn A a1 S _) (cwV 1 hts gX11_cast_X11_isPane rfl rfl rfl (by decide +kernel) ⟨(Nat.le_of_ble_eq_true rfl), (Nat.le_of_ble_eq_true rfl)⟩) ⟨k_blind, (k_recv hK hH (lt_n hn (by decide)) Ec_0 rfl), k_pre hK hN hH hw⟩ rfl rfl hl.1 rfl (lv_room (Nat.le_of_ble_eq_true rfl)) dX11_cast_2 ⟨Nat.le_refl _, Nat.le_refl _⟩) hH (fun r2 S1 H locs hw hH => ?_)
  refine lv_if_eq (tgt := 15) hx hb dX11_cast_5 (by decide) (fun hc3 => ?_) (fun hc3 => ?_)
  · replace hw := hw.1 hc3
    refine lv_iconst (v := -1) hx hb dX11_cast_15 (by decide +kernel) ?_
    exact k_iret hx hb hr hlocks hK hN hH hw dX11_cast_16
  · replace hw := hw.2 hc3
    refine lv_iload_n hx hb dX11_cast_8 rfl (lv_at hl 2 rfl) ?_
    refine k_afti (va_runS (As := [.int a2]) (rest := []) ⟨hx, hb, hml, hown, hts⟩ (c_X11_isKind l D kA ly n hn A a2 S1 _) (va_cwS 1 hts gX11_cast_X11_isKind rfl rfl rfl (by decide +kernel) ⟨(Nat.le_of_ble_eq_true rfl), (Nat.le_of_ble_eq_true rfl)⟩) ⟨k_blind, k_pre hK hN hH hw⟩ rfl rfl hl.1 rfl (lv_room (Nat.le_of_ble_eq_true rfl)) dX11_cast_9 ⟨Nat.le_refl _, Nat.le_refl _⟩) hH (fun r5 S4 H locs hw hH => ?_)
    refine lv_if_ne (tgt := 17) hx hb dX11_cast_12 (by decide) (fun hc6 => ?_) (fun hc6 => ?_)
    · replace hw := hw.2 hc6
      refine lv_aload_n hx hb dX11_cast_17 rfl (lv_at hl 0 rfl) ?_
      refine gf_this_8 hx hb hts hiX11 hown hK hn hH lk0 dX11_cast_18 ?_
      obtain ⟨o7, eo7⟩ : ∃ y : Nat, y = (gN S4 0 8) := ⟨_, rfl⟩
      obtain ⟨ho7, hw⟩ := hw o7 eo7
      rw [← eo7]
      refine gf_w_2 hx hb hts hiX10 hown hK hn hH ho7 lk1 dX11_cast_21 ?_
      refine lv_iload_n hx hb dX11_cast_24 rfl (lv_at hl 1 rfl) ?_
      obtain ⟨hi_8, hw⟩ := hw
      obtain ⟨o9, eo9⟩ : ∃ y : Nat, y = gN S4 (o7 + 3) a1.toNatClampNeg := ⟨_, rfl⟩
      obtain ⟨ho9, hw⟩ := hw o9 eo9
      refine k_ald (t0 := 1) (v := .ref (ly o9)) hx hb hK hH (w_lt hn ho7 3 (by decide)) rfl (Ec_wp ho7) hi_8 (by rw [eo9]; rfl) dX11_cast_25 ?_
      refine lv_astore_n (lv' := [(3, .ref (ly o9)), (0, .ref (ly 0)), (1, .int a1), (2, .int a2)]) hx hb dX11_cast_26 rfl hl (by decide) rfl (fun ls hl => ?_)
      refine lv_aload_n hx hb dX11_cast_27 rfl (lv_at hl 0 rfl) ?_
      refine gf_pn_2 hx hb hts hiX3 hown hK hn hH ho9 lk2 dX11_cast_28 ?_
      refine lv_topi (fun t10 et10 => ?_)
      replace hw := hw t10 et10
      refine lv_istore (lv' := [(4, .int t10), (3, .ref (ly o9)), (0, .ref (ly 0)), (1, .int a1), (2, .int a2)]) hx hb dX11_cast_31 hl (by decide) rfl (fun ls hl => ?_)
      refine lv_aload_n hx hb dX11_cast_33 rfl (lv_at hl 1 rfl) ?_
      refine lv_iload_n hx hb dX11_cast_34 rfl (lv_at hl 4 rfl) ?_
      refine pf_pn_2 hx hb hts hiX3 hown hK hn hH ho9 lk2 dX11_cast_35 (fun S11 H locs eS11 hH => ?_)
      replace hw := hw S11 eS11
      refine lv_iload hx hb dX11_cast_38 (lv_at hl 0 rfl) ?_
      exact k_iret hx hb hr hlocks hK hN hH hw dX11_cast_40
    · replace hw := hw.1 hc6
      refine lv_iconst (v := -1) hx hb dX11_cast_15 (by decide +kernel) ?_
      exact k_iret hx hb hr hlocks hK hN hH hw dX11_cast_16
def wp_X11_today  (S : St) (Q : Int32 → St → Prop) : Prop := (∀ o1 : Nat, o1 = (gN S 0 8) → isW o1 ∧ Q (gI S o1 4) S)
set_option maxHeartbeats 4000000 in
set_option maxRecDepth 100000 in
theorem c_X11_today (l : Launch) (D : va_G) (kA : Nat → ClassId) (ly : Nat → Nat) (n : List Nat) (hn : ∀ c, c < 59 → c ∈ n) (A : Nat → Prop)  : Ci l yX11_today wsX11_today 0 0 (Gp D (Ec kA ly) ly n A kA) A [.ref (ly 0)] (wp_X11_today) := by
  intro S Q
  refine Met.ofW (cc := cX11_today) (maxL := 1) (ret := (some .int)) (by decide) rfl ?_
  intro p e s m args below meth c s₁ B hml hv
  obtain ⟨rfl, ⟨hP, hD, hK, hN⟩, hw⟩ := hv
  have hx := B.exec
  have hb := B.bytes
  have hr := B.returns
  have hts := atoms_spec (ws := wsX11_today) B.pre
  have hown : s.vm.findClass RX11 = some m.cls := findClass_of_methodNamed B.named
  have hlocks := B.notSynchronized
  have hH : Hp D (Ec kA ly) ly n A s.heap S s.heap [] := ⟨hP, hD, va_S.rf⟩
  have hiX11 : ∀ w ∈ u_ws RX11 TX11 12, w ∈ wsX11_today := by decide +kernel
  have hiX10 : ∀ w ∈ u_ws RX10 TX10 6, w ∈ wsX11_today := by decide +kernel
  have lk0 := hts (.fieldLink RX11 53 "SlowPanes" "world" "LSlowPanes$World;") (by decide +kernel)
  have lk1 := hts (.fieldLink RX11 140 "SlowPanes$World" "today" "I") (by decide +kernel)
  have hl := lv_entry ([.ref (ly 0)]) (n := 1) (Nat.le_of_ble_eq_true rfl)
  rw [lg_entry_eq]
  generalize (lg_sl ([.ref (ly 0)]) ++ List.replicate (1 - (lg_sl ([.ref (ly 0)])).length) Slot.unset).toArray = ls at hl ⊢
  have hl : lv_has ls 1 [(0, .ref (ly 0))] := hl
  rw [wp_X11_today] at hw
  refine lv_aload_n hx hb dX11_today_0 rfl (lv_at hl 0 rfl) ?_
  refine gf_this_8 hx hb hts hiX11 hown hK hn hH lk0 dX11_today_1 ?_
  obtain ⟨o1, eo1⟩ : ∃ y : Nat, y = (gN S 0 8) := ⟨_, rfl⟩
  obtain ⟨ho1, hw⟩ := hw o1 eo1
  rw [← eo1]
  refine gf_w_4 hx hb hts hiX10 hown hK hn hH ho1 lk1 dX11_today_4 ?_
  exact k_iret hx hb hr hlocks hK hN hH hw dX11_today_7
def wl_X11_days_14 (a1 : Int32) (K_14 : Int32 → St → Prop) : Nat → Int32 → St → Prop
  | 0, _, _ => False
  | fu_14 + 1, v2_14, S_14 => ((a1 ≤ v2_14 → K_14 v2_14 S_14) ∧ (¬ a1 ≤ v2_14 → (∀ o4 : Nat, o4 = (gN S_14 0 8) → isW o4 ∧ (((50 : Int32) ≤ (gI S_14 o4 4) → K_14 v2_14 S_14) ∧ (¬ (50 : Int32) ≤ (gI S_14 o4 4) → wp_X10_passDay o4 S_14 (fun S6 => (∀ t7 : Int32, t7 = v2_14 + 1 → wl_X11_days_14 a1 K_14 fu_14 t7 S6)))))))
def wp_X11_days (a1 : Int32) (S : St) (Q : Int32 → St → Prop) : Prop := ((a1 < 0 → Q (-1 : Int32) S) ∧ (¬ a1 < 0 → ((a1 ≤ (50 : Int32) → (∃ m_14 : Nat, wl_X11_days_14 a1 (fun e2_8 S9 => (∀ o10 : Nat, o10 = (gN S9 0 8) → isW o10 ∧ Q (gI S9 o10 4) S9)) m_14 (0 : Int32) S)) ∧ (¬ a1 ≤ (50 : Int32) → Q (-1 : Int32) S))))
set_option maxHeartbeats 4000000 in
set_option maxRecDepth 100000 in
theorem c_X11_days (l : Launch) (D : va_G) (kA : Nat → ClassId) (ly : Nat → Nat) (n : List Nat) (hn : ∀ c, c < 59 → c ∈ n) (A : Nat → Prop) (a1 : Int32) : Ci l yX11_days wsX11_days 3 64 (Gp D (Ec kA ly) ly n A kA) A [.ref (ly 0), .int a1] (wp_X11_days a1) := by
  intro S Q
  refine Met.ofW (cc := cX11_days) (maxL := 3) (ret := (some .int)) (by decide) rfl ?_
  intro p e s m args below meth c s₁ B hml hv
  obtain ⟨rfl, ⟨hP, hD, hK, hN⟩, hw⟩ := hv
  have hx := B.exec
  have hb := B.bytes
  have hr := B.returns
  have hts := atoms_spec (ws := wsX11_days) B.pre
  have hown : s.vm.findClass RX11 = some m.cls := findClass_of_methodNamed B.named
  have hlocks := B.notSynchronized
  have hH : Hp D (Ec kA ly) ly n A s.heap S s.heap [] := ⟨hP, hD, va_S.rf⟩
  have hiX11 : ∀ w ∈ u_ws RX11 TX11 12, w ∈ wsX11_days := by decide +kernel
  have hiX10 : ∀ w ∈ u_ws RX10 TX10 6, w ∈ wsX11_days := by decide +kernel
  have lk0 := hts (.fieldLink RX11 53 "SlowPanes" "world" "LSlowPanes$World;") (by decide +kernel)
  have lk1 := hts (.fieldLink RX11 140 "SlowPanes$World" "today" "I") (by decide +kernel)
  have hl := lv_entry ([.ref (ly 0), .int a1]) (n := 3) (Nat.le_of_ble_eq_true rfl)
  rw [lg_entry_eq]
  generalize (lg_sl ([.ref (ly 0), .int a1]) ++ List.replicate (3 - (lg_sl ([.ref (ly 0), .int a1])).length) Slot.unset).toArray = ls at hl ⊢
  have hl : lv_has ls 3 [(0, .ref (ly 0)), (1, .int a1)] := hl
  rw [wp_X11_days] at hw
  refine lv_iload_n hx hb dX11_days_0 rfl (lv_at hl 1 rfl) ?_
  refine lv_if_lt (tgt := 10) hx hb dX11_days_1 (by decide) (fun hc1 => ?_) (fun hc1 => ?_)
  · replace hw := hw.1 hc1
    refine lv_iconst (v := -1) hx hb dX11_days_10 (by decide +kernel) ?_
    exact k_iret hx hb hr hlocks hK hN hH hw dX11_days_11
  · replace hw := hw.2 hc1
    refine lv_iload_n hx hb dX11_days_4 rfl (lv_at hl 1 rfl) ?_
    refine lv_bipush (v := 50) hx hb dX11_days_5 (by decide +kernel) ?_
    refine lv_icmp_le (tgt := 12) hx hb dX11_days_7 (by decide) (fun hc2 => ?_) (fun hc2 => ?_)
    · replace hw := hw.1 hc2
      refine lv_iconst (v := 0) hx hb dX11_days_12 (by decide +kernel) ?_
      refine lv_istore_n (lv' := [(2, .int (0 : Int32)), (0, .ref (ly 0)), (1, .int a1)]) hx hb dX11_days_13 rfl hl (by decide) rfl (fun ls hl => ?_)
      have L_14 : ∀ (K_14 : Int32 → St → Prop) (hk_14 : ∀ (v2_14 : Int32) (S_14 : St) (H : Heap) (locs : List Loc) (ls : Array Slot), K_14 v2_14 S_14 → Hp D (Ec kA ly) ly n A s.heap S_14 H locs → lv_has ls 3 [(0, .ref (ly 0)), (1, .int a1), (2, .int v2_14)] → W p l e (headSpec wsX11_days { frames := 3, cells := 0, slots := 0, locals := 64 }).room s m [.ref (ly 0), .int a1].toArray below meth c H locs 0 0 (MQ below (va_Qi Q (Gp D (Ec kA ly) ly n A kA) A) [.ref (ly 0), .int a1].toArray s 0 0 A) (F0 m 44 ls [])) (fu_14 : Nat) (v2_14 : Int32) (S_14 : St) (H : Heap) (locs : List Loc) (ls : Array Slot), wl_X11_days_14 a1 K_14 fu_14 v2_14 S_14 → Hp D (Ec kA ly) ly n A s.heap S_14 H locs → lv_has ls 3 [(0, .ref (ly 0)), (1, .int a1), (2, .int v2_14)] → W p l e (headSpec wsX11_days { frames := 3, cells := 0, slots := 0, locals := 64 }).room s m [.ref (ly 0), .int a1].toArray below meth c H locs 0 0 (MQ below (va_Qi Q (Gp D (Ec kA ly) ly n A kA) A) [.ref (ly 0), .int a1].toArray s 0 0 A) (F0 m 14 ls []) := by
        intro K_14 hk_14 fu_14
        induction fu_14 with
        | zero => intro v2_14 S_14 H locs ls hw hH hl; rw [wl_X11_days_14] at hw; exact hw.elim
        | succ fu_14 ih_14 =>
          intro v2_14 S_14 H locs ls hw hH hl
          rw [wl_X11_days_14] at hw
          refine lv_iload_n hx hb dX11_days_14 rfl (lv_at hl 2 rfl) ?_
          refine lv_iload_n hx hb dX11_days_15 rfl (lv_at hl 1 rfl) ?_
          refine lv_icmp_ge (tgt := 44) hx hb dX11_days_16 (by decide) (fun hc3 => ?_) (fun hc3 => ?_)
          · replace hw := hw.1 hc3
            exact hk_14 v2_14 S_14 _ _ ls hw hH (lv_sub hl [0, 1, 2] rfl)
          · replace hw := hw.2 hc3
            refine lv_aload_n hx hb dX11_days_19 rfl (lv_at hl 0 rfl) ?_
            refine gf_this_8 hx hb hts hiX11 hown hK hn hH lk0 dX11_days_20 ?_
            obtain ⟨o4, eo4⟩ : ∃ y : Nat, y = (gN S_14 0 8) := ⟨_, rfl⟩
            obtain ⟨ho4, hw⟩ := hw o4 eo4
            rw [← eo4]
            refine gf_w_4 hx hb hts hiX10 hown hK hn hH ho4 lk1 dX11_days_23 ?_
            refine lv_bipush (v := 50) hx hb dX11_days_26 (by decide +kernel) ?_
            refine lv_icmp_ge (tgt := 44) hx hb dX11_days_28 (by decide) (fun hc5 => ?_) (fun hc5 => ?_)
            · replace hw := hw.1 hc5
              exact hk_14 v2_14 S_14 _ _ ls hw hH (lv_sub hl [0, 1, 2] rfl)
            · replace hw := hw.2 hc5
              refine lv_aload_n hx hb dX11_days_31 rfl (lv_at hl 0 rfl) ?_
              refine gf_this_8 hx hb hts hiX11 hown hK hn hH lk0 dX11_days_32 ?_
              rw [← eo4]
              refine k_aftv (va_runV (As := []) (rest := []) ⟨hx, hb, hml, hown, hts⟩ (c_X10_passDay l D kA ly n hn A o4 S_14 _) (cwV 0 hts gX11_days_X10_passDay rfl rfl rfl (by decide +kernel) ⟨(Nat.le_of_ble_eq_true rfl), (Nat.le_of_ble_eq_true rfl)⟩) ⟨k_blind, (k_recv hK hH (w_lt0 hn ho4) (Ec_w ho4) rfl), k_pre hK hN hH hw⟩ rfl rfl hl.1 rfl (lv_room (Nat.le_of_ble_eq_true rfl)) dX11_days_35 ⟨Nat.le_refl _, Nat.le_refl _⟩) hH (fun S6 H locs hw hH => ?_)
              obtain ⟨t7, et7⟩ : ∃ y : Int32, y = v2_14 + 1 := ⟨_, rfl⟩
              replace hw := hw t7 et7
              refine lv_iinc (v := t7) (lv' := [(2, .int t7), (0, .ref (ly 0)), (1, .int a1)]) hx hb dX11_days_38 hl (k := 2) rfl (by rw [et7]; rfl) (by decide) rfl (fun ls hl => ?_)
              refine lv_goto (tgt := 14) hx hb dX11_days_41 (by decide) ?_
              exact ih_14 t7 S6 _ _ ls hw hH (lv_sub hl [1, 2, 0] rfl)
      obtain ⟨m_14, hw⟩ := hw
      refine L_14 _ (fun e2_8 S9 H locs ls hw hH hl => ?_) m_14 (0 : Int32) S _ _ ls hw hH (lv_sub hl [1, 2, 0] rfl)
      refine lv_aload_n hx hb dX11_days_44 rfl (lv_at hl 0 rfl) ?_
      refine gf_this_8 hx hb hts hiX11 hown hK hn hH lk0 dX11_days_45 ?_
      obtain ⟨o10, eo10⟩ : ∃ y : Nat, y = (gN S9 0 8) := ⟨_, rfl⟩
      obtain ⟨ho10, hw⟩ := hw o10 eo10
      rw [← eo10]
      refine gf_w_4 hx hb hts hiX10 hown hK hn hH ho10 lk1 dX11_days_48 ?_
      exact k_iret hx hb hr hlocks hK hN hH hw dX11_days_51
    · replace hw := hw.2 hc2
      refine lv_iconst (v := -1) hx hb dX11_days_10 (by decide +kernel) ?_
      exact k_iret hx hb hr hlocks hK hN hH hw dX11_days_11
def wp_X11_turn (a1 : Int32) (S : St) (Q : Int32 → St → Prop) : Prop := wp_X11_isPane a1 S (fun r2 S1 => ((r2 = 0 → Q (-1 : Int32) S1) ∧ (¬ r2 = 0 → (∀ o4 : Nat, o4 = (gN S1 0 8) → isW o4 ∧ (vp_in a1 6 ∧ ∀ o6 : Nat, o6 = gN S1 (o4 + 3) a1.toNatClampNeg → isPn o6 ∧ wp_X3_turnAbout o6 S1 (fun S7 => (∀ o8 : Nat, o8 = (gN S7 0 8) → isW o8 ∧ wp_X10_shownBy o8 o6 S7 (fun r10 S9 => Q r10 S9))))))))
set_option maxHeartbeats 4000000 in
set_option maxRecDepth 100000 in
theorem c_X11_turn (l : Launch) (D : va_G) (kA : Nat → ClassId) (ly : Nat → Nat) (n : List Nat) (hn : ∀ c, c < 59 → c ∈ n) (A : Nat → Prop) (a1 : Int32) : Ci l yX11_turn wsX11_turn 3 64 (Gp D (Ec kA ly) ly n A kA) A [.ref (ly 0), .int a1] (wp_X11_turn a1) := by
  intro S Q
  refine Met.ofW (cc := cX11_turn) (maxL := 3) (ret := (some .int)) (by decide) rfl ?_
  intro p e s m args below meth c s₁ B hml hv
  obtain ⟨rfl, ⟨hP, hD, hK, hN⟩, hw⟩ := hv
  have hx := B.exec
  have hb := B.bytes
  have hr := B.returns
  have hts := atoms_spec (ws := wsX11_turn) B.pre
  have hown : s.vm.findClass RX11 = some m.cls := findClass_of_methodNamed B.named
  have hlocks := B.notSynchronized
  have hH : Hp D (Ec kA ly) ly n A s.heap S s.heap [] := ⟨hP, hD, va_S.rf⟩
  have hiX11 : ∀ w ∈ u_ws RX11 TX11 12, w ∈ wsX11_turn := by decide +kernel
  have hiX10 : ∀ w ∈ u_ws RX10 TX10 6, w ∈ wsX11_turn := by decide +kernel
  have lk0 := hts (.fieldLink RX11 53 "SlowPanes" "world" "LSlowPanes$World;") (by decide +kernel)
  have lk1 := hts (.fieldLink RX11 124 "SlowPanes$World" "panes" "[LSlowPanes$Pane;") (by decide +kernel)
  have hl := lv_entry ([.ref (ly 0), .int a1]) (n := 3) (Nat.le_of_ble_eq_true rfl)
  rw [lg_entry_eq]
  generalize (lg_sl ([.ref (ly 0), .int a1]) ++ List.replicate (3 - (lg_sl ([.ref (ly 0), .int a1])).length) Slot.unset).toArray = ls at hl ⊢
  have hl : lv_has ls 3 [(0, .ref (ly 0)), (1, .int a1)] := hl
  rw [wp_X11_turn] at hw
  refine lv_aload_n hx hb dX11_turn_0 rfl (lv_at hl 0 rfl) ?_
  refine lv_iload_n hx hb dX11_turn_1 rfl (lv_at hl 1 rfl) ?_
  refine k_afti (va_runV (As := [.int a1]) (rest := []) ⟨hx, hb, hml, hown, hts⟩ (c_X11_isPane l D kA ly n hn A a1 S _) (cwV 1 hts gX11_turn_X11_isPane rfl rfl rfl (by decide +kernel) ⟨(Nat.le_of_ble_eq_true rfl), (Nat.le_of_ble_eq_true rfl)⟩) ⟨k_blind, (k_recv hK hH (lt_n hn (by decide)) Ec_0 rfl), k_pre hK hN hH hw⟩ rfl rfl hl.1 rfl (lv_room (Nat.le_of_ble_eq_true rfl)) dX11_turn_2 ⟨Nat.le_refl _, Nat.le_refl _⟩) hH (fun r2 S1 H locs hw hH => ?_)
  refine lv_if_ne (tgt := 10) hx hb dX11_turn_5 (by decide) (fun hc3 => ?_) (fun hc3 => ?_)
  · replace hw := hw.2 hc3
    refine lv_aload_n hx hb dX11_turn_10 rfl (lv_at hl 0 rfl) ?_
    refine gf_this_8 hx hb hts hiX11 hown hK hn hH lk0 dX11_turn_11 ?_
    obtain ⟨o4, eo4⟩ : ∃ y : Nat, y = (gN S1 0 8) := ⟨_, rfl⟩
    obtain ⟨ho4, hw⟩ := hw o4 eo4
    rw [← eo4]
    refine gf_w_2 hx hb hts hiX10 hown hK hn hH ho4 lk1 dX11_turn_14 ?_
    refine lv_iload_n hx hb dX11_turn_17 rfl (lv_at hl 1 rfl) ?_
    obtain ⟨hi_5, hw⟩ := hw
    obtain ⟨o6, eo6⟩ : ∃ y : Nat, y = gN S1 (o4 + 3) a1.toNatClampNeg := ⟨_, rfl⟩
    obtain ⟨ho6, hw⟩ := hw o6 eo6
    refine k_ald (t0 := 1) (v := .ref (ly o6)) hx hb hK hH (w_lt hn ho4 3 (by decide)) rfl (Ec_wp ho4) hi_5 (by rw [eo6]; rfl) dX11_turn_18 ?_
    refine lv_astore_n (lv' := [(2, .ref (ly o6)), (0, .ref (ly 0)), (1, .int a1)]) hx hb dX11_turn_19 rfl hl (by decide) rfl (fun ls hl => ?_)
    refine lv_aload_n hx hb dX11_turn_20 rfl (lv_at hl 0 rfl) ?_
    refine k_aftv (va_runV (As := []) (rest := []) ⟨hx, hb, hml, hown, hts⟩ (c_X3_turnAbout l D kA ly n hn A o6 S1 _) (cwV 0 hts gX11_turn_X3_turnAbout rfl rfl rfl (by decide +kernel) ⟨(Nat.le_of_ble_eq_true rfl), (Nat.le_of_ble_eq_true rfl)⟩) ⟨k_blind, (k_recv hK hH (pn_lt hn ho6) (Ec_pn ho6) rfl), k_pre hK hN hH hw⟩ rfl rfl hl.1 rfl (lv_room (Nat.le_of_ble_eq_true rfl)) dX11_turn_21 ⟨Nat.le_refl _, Nat.le_refl _⟩) hH (fun S7 H locs hw hH => ?_)
    refine lv_aload_n hx hb dX11_turn_24 rfl (lv_at hl 1 rfl) ?_
    refine gf_this_8 hx hb hts hiX11 hown hK hn hH lk0 dX11_turn_25 ?_
    obtain ⟨o8, eo8⟩ : ∃ y : Nat, y = (gN S7 0 8) := ⟨_, rfl⟩
    obtain ⟨ho8, hw⟩ := hw o8 eo8
    rw [← eo8]
    refine lv_aload_n hx hb dX11_turn_28 rfl (lv_at hl 0 rfl) ?_
    refine k_afti (va_runV (As := [.ref (ly o6)]) (rest := []) ⟨hx, hb, hml, hown, hts⟩ (c_X10_shownBy l D kA ly n hn A o8 o6 S7 _) (cwV 1 hts gX11_turn_X10_shownBy rfl rfl rfl (by decide +kernel) ⟨(Nat.le_of_ble_eq_true rfl), (Nat.le_of_ble_eq_true rfl)⟩) ⟨k_blind, (k_recv hK hH (w_lt0 hn ho8) (Ec_w ho8) rfl), k_pre hK hN hH hw⟩ rfl rfl hl.1 rfl (lv_room (Nat.le_of_ble_eq_true rfl)) dX11_turn_29 ⟨Nat.le_refl _, Nat.le_refl _⟩) hH (fun r10 S9 H locs hw hH => ?_)
    exact k_iret hx hb hr hlocks hK hN hH hw dX11_turn_32
  · replace hw := hw.1 hc3
    refine lv_iconst (v := -1) hx hb dX11_turn_8 (by decide +kernel) ?_
    exact k_iret hx hb hr hlocks hK hN hH hw dX11_turn_9
def wp_X11_cut (a1 : Int32) (a2 : Int32) (S : St) (Q : Int32 → St → Prop) : Prop := wp_X11_isPane a1 S (fun r2 S1 => ((r2 = 0 → Q (-1 : Int32) S1) ∧ (¬ r2 = 0 → (((1 : Int32) ≤ a2 → (∀ o5 : Nat, o5 = (gN S1 0 8) → isW o5 ∧ (vp_in a1 6 ∧ ∀ o7 : Nat, o7 = gN S1 (o5 + 3) a1.toNatClampNeg → isPn o7 ∧ ((a2 < (gI S1 o7 3) → wp_X10_isFull o5 S1 (fun r10 S9 => ((r10 = 0 → (∀ o12 : Nat, o12 = (gN S9 0 8) → isW o12 ∧ wp_X10_addPane o12 (0 : Int32) (1 : Int32) S9 (fun o14 S13 => isPn o14 ∧ wp_X3_becomeBehind o14 o7 a2 S13 (fun S15 => (∀ S16 : St, S16 = sI S15 o7 3 a2 → (∀ o17 : Nat, o17 = (gN S16 0 8) → isW o17 ∧ Q ((gI S16 o17 3) - (1 : Int32)) S16)))))) ∧ (¬ r10 = 0 → Q (-2 : Int32) S9)))) ∧ (¬ a2 < (gI S1 o7 3) → Q (-4 : Int32) S1))))) ∧ (¬ (1 : Int32) ≤ a2 → Q (-1 : Int32) S1)))))
set_option maxHeartbeats 4000000 in
set_option maxRecDepth 100000 in
theorem c_X11_cut (l : Launch) (D : va_G) (kA : Nat → ClassId) (ly : Nat → Nat) (n : List Nat) (hn : ∀ c, c < 59 → c ∈ n) (A : Nat → Prop) (a1 : Int32) (a2 : Int32) : Ci l yX11_cut wsX11_cut 3 68 (Gp D (Ec kA ly) ly n A kA) A [.ref (ly 0), .int a1, .int a2] (wp_X11_cut a1 a2) := by
  intro S Q
  refine Met.ofW (cc := cX11_cut) (maxL := 5) (ret := (some .int)) (by decide) rfl ?_
  intro p e s m args below meth c s₁ B hml hv
  obtain ⟨rfl, ⟨hP, hD, hK, hN⟩, hw⟩ := hv
  have hx := B.exec
  have hb := B.bytes
  have hr := B.returns
  have hts := atoms_spec (ws := wsX11_cut) B.pre
  have hown : s.vm.findClass RX11 = some m.cls := findClass_of_methodNamed B.named
  have hlocks := B.notSynchronized
  have hH : Hp D (Ec kA ly) ly n A s.heap S s.heap [] := ⟨hP, hD, va_S.rf⟩
  have hiX11 : ∀ w ∈ u_ws RX11 TX11 12, w ∈ wsX11_cut := by decide +kernel
  have hiX10 : ∀ w ∈ u_ws RX10 TX10 6, w ∈ wsX11_cut := by decide +kernel
  have hiX3 : ∀ w ∈ u_ws RX3 TX3 5, w ∈ wsX11_cut := by decide +kernel
  have lk0 := hts (.fieldLink RX11 53 "SlowPanes" "world" "LSlowPanes$World;") (by decide +kernel)
  have lk1 := hts (.fieldLink RX11 124 "SlowPanes$World" "panes" "[LSlowPanes$Pane;") (by decide +kernel)
  have lk2 := hts (.fieldLink RX11 131 "SlowPanes$Pane" "count" "I") (by decide +kernel)
  have lk3 := hts (.fieldLink RX11 84 "SlowPanes$World" "count" "I") (by decide +kernel)
  have hl := lv_entry ([.ref (ly 0), .int a1, .int a2]) (n := 5) (Nat.le_of_ble_eq_true rfl)
  rw [lg_entry_eq]
  generalize (lg_sl ([.ref (ly 0), .int a1, .int a2]) ++ List.replicate (5 - (lg_sl ([.ref (ly 0), .int a1, .int a2])).length) Slot.unset).toArray = ls at hl ⊢
  have hl : lv_has ls 5 [(0, .ref (ly 0)), (1, .int a1), (2, .int a2)] := hl
  rw [wp_X11_cut] at hw
  refine lv_aload_n hx hb dX11_cut_0 rfl (lv_at hl 0 rfl) ?_
  refine lv_iload_n hx hb dX11_cut_1 rfl (lv_at hl 1 rfl) ?_
  refine k_afti (va_runV (As := [.int a1]) (rest := []) ⟨hx, hb, hml, hown, hts⟩ (c_X11_isPane l D kA ly n hn A a1 S _) (cwV 1 hts gX11_cut_X11_isPane rfl rfl rfl (by decide +kernel) ⟨(Nat.le_of_ble_eq_true rfl), (Nat.le_of_ble_eq_true rfl)⟩) ⟨k_blind, (k_recv hK hH (lt_n hn (by decide)) Ec_0 rfl), k_pre hK hN hH hw⟩ rfl rfl hl.1 rfl (lv_room (Nat.le_of_ble_eq_true rfl)) dX11_cut_2 ⟨Nat.le_refl _, Nat.le_refl _⟩) hH (fun r2 S1 H locs hw hH => ?_)
  refine lv_if_eq (tgt := 13) hx hb dX11_cut_5 (by decide) (fun hc3 => ?_) (fun hc3 => ?_)
  · replace hw := hw.1 hc3
    refine lv_iconst (v := -1) hx hb dX11_cut_13 (by decide +kernel) ?_
    exact k_iret hx hb hr hlocks hK hN hH hw dX11_cut_14
  · replace hw := hw.2 hc3
    refine lv_iload_n hx hb dX11_cut_8 rfl (lv_at hl 2 rfl) ?_
    refine lv_iconst (v := 1) hx hb dX11_cut_9 (by decide +kernel) ?_
    refine lv_icmp_ge (tgt := 15) hx hb dX11_cut_10 (by decide) (fun hc4 => ?_) (fun hc4 => ?_)
    · replace hw := hw.1 hc4
      refine lv_aload_n hx hb dX11_cut_15 rfl (lv_at hl 0 rfl) ?_
      refine gf_this_8 hx hb hts hiX11 hown hK hn hH lk0 dX11_cut_16 ?_
      obtain ⟨o5, eo5⟩ : ∃ y : Nat, y = (gN S1 0 8) := ⟨_, rfl⟩
      obtain ⟨ho5, hw⟩ := hw o5 eo5
      rw [← eo5]
      refine gf_w_2 hx hb hts hiX10 hown hK hn hH ho5 lk1 dX11_cut_19 ?_
      refine lv_iload_n hx hb dX11_cut_22 rfl (lv_at hl 1 rfl) ?_
      obtain ⟨hi_6, hw⟩ := hw
      obtain ⟨o7, eo7⟩ : ∃ y : Nat, y = gN S1 (o5 + 3) a1.toNatClampNeg := ⟨_, rfl⟩
      obtain ⟨ho7, hw⟩ := hw o7 eo7
      refine k_ald (t0 := 1) (v := .ref (ly o7)) hx hb hK hH (w_lt hn ho5 3 (by decide)) rfl (Ec_wp ho5) hi_6 (by rw [eo7]; rfl) dX11_cut_23 ?_
      refine lv_astore_n (lv' := [(3, .ref (ly o7)), (0, .ref (ly 0)), (1, .int a1), (2, .int a2)]) hx hb dX11_cut_24 rfl hl (by decide) rfl (fun ls hl => ?_)
      refine lv_aload_n hx hb dX11_cut_25 rfl (lv_at hl 0 rfl) ?_
      refine gf_pn_3 hx hb hts hiX3 hown hK hn hH ho7 lk2 dX11_cut_26 ?_
      refine lv_iload_n hx hb dX11_cut_29 rfl (lv_at hl 3 rfl) ?_
      refine lv_icmp_gt (tgt := 36) hx hb dX11_cut_30 (by decide) (fun hc8 => ?_) (fun hc8 => ?_)
      · replace hw := hw.1 hc8
        refine lv_aload_n hx hb dX11_cut_36 rfl (lv_at hl 1 rfl) ?_
        refine gf_this_8 hx hb hts hiX11 hown hK hn hH lk0 dX11_cut_37 ?_
        rw [← eo5]
        refine k_afti (va_runV (As := []) (rest := []) ⟨hx, hb, hml, hown, hts⟩ (c_X10_isFull l D kA ly n hn A o5 S1 _) (cwV 0 hts gX11_cut_X10_isFull rfl rfl rfl (by decide +kernel) ⟨(Nat.le_of_ble_eq_true rfl), (Nat.le_of_ble_eq_true rfl)⟩) ⟨k_blind, (k_recv hK hH (w_lt0 hn ho5) (Ec_w ho5) rfl), k_pre hK hN hH hw⟩ rfl rfl hl.1 rfl (lv_room (Nat.le_of_ble_eq_true rfl)) dX11_cut_40 ⟨Nat.le_refl _, Nat.le_refl _⟩) hH (fun r10 S9 H locs hw hH => ?_)
        refine lv_if_eq (tgt := 49) hx hb dX11_cut_43 (by decide) (fun hc11 => ?_) (fun hc11 => ?_)
        · replace hw := hw.1 hc11
          refine lv_aload_n hx hb dX11_cut_49 rfl (lv_at hl 1 rfl) ?_
          refine gf_this_8 hx hb hts hiX11 hown hK hn hH lk0 dX11_cut_50 ?_
          obtain ⟨o12, eo12⟩ : ∃ y : Nat, y = (gN S9 0 8) := ⟨_, rfl⟩
          obtain ⟨ho12, hw⟩ := hw o12 eo12
          rw [← eo12]
          refine lv_iconst (v := 0) hx hb dX11_cut_53 (by decide +kernel) ?_
          refine lv_iconst (v := 1) hx hb dX11_cut_54 (by decide +kernel) ?_
          refine k_aftr (va_runV (As := [.int (0 : Int32), .int (1 : Int32)]) (rest := []) ⟨hx, hb, hml, hown, hts⟩ (c_X10_addPane l D kA ly n hn A o12 (0 : Int32) (1 : Int32) S9 _) (cwV 2 hts gX11_cut_X10_addPane rfl rfl rfl (by decide +kernel) ⟨(Nat.le_of_ble_eq_true rfl), (Nat.le_of_ble_eq_true rfl)⟩) ⟨k_blind, (k_recv hK hH (w_lt0 hn ho12) (Ec_w ho12) rfl), k_pre hK hN hH hw⟩ rfl rfl hl.1 rfl (lv_room (Nat.le_of_ble_eq_true rfl)) dX11_cut_55 ⟨Nat.le_refl _, Nat.le_refl _⟩) hH (fun o14 S13 H locs hw hH => ?_)
          obtain ⟨ho14, hw⟩ := hw
          refine lv_astore (lv' := [(4, .ref (ly o14)), (3, .ref (ly o7)), (0, .ref (ly 0)), (1, .int a1), (2, .int a2)]) hx hb dX11_cut_58 hl (by decide) rfl (fun ls hl => ?_)
          refine lv_aload hx hb dX11_cut_60 (lv_at hl 0 rfl) ?_
          refine lv_aload_n hx hb dX11_cut_62 rfl (lv_at hl 1 rfl) ?_
          refine lv_iload_n hx hb dX11_cut_63 rfl (lv_at hl 4 rfl) ?_
          refine k_aftv (va_runV (As := [.ref (ly o7), .int a2]) (rest := []) ⟨hx, hb, hml, hown, hts⟩ (c_X3_becomeBehind l D kA ly n hn A o14 o7 a2 S13 _) (cwV 2 hts gX11_cut_X3_becomeBehind rfl rfl rfl (by decide +kernel) ⟨(Nat.le_of_ble_eq_true rfl), (Nat.le_of_ble_eq_true rfl)⟩) ⟨k_blind, (k_recv hK hH (pn_lt hn ho14) (Ec_pn ho14) rfl), k_pre hK hN hH hw⟩ rfl rfl hl.1 rfl (lv_room (Nat.le_of_ble_eq_true rfl)) dX11_cut_64 ⟨Nat.le_refl _, Nat.le_refl _⟩) hH (fun S15 H locs hw hH => ?_)
          refine lv_aload_n hx hb dX11_cut_67 rfl (lv_at hl 1 rfl) ?_
          refine lv_iload_n hx hb dX11_cut_68 rfl (lv_at hl 4 rfl) ?_
          refine pf_pn_3 hx hb hts hiX3 hown hK hn hH ho7 lk2 dX11_cut_69 (fun S16 H locs eS16 hH => ?_)
          replace hw := hw S16 eS16
          refine lv_aload_n hx hb dX11_cut_72 rfl (lv_at hl 2 rfl) ?_
          refine gf_this_8 hx hb hts hiX11 hown hK hn hH lk0 dX11_cut_73 ?_
          obtain ⟨o17, eo17⟩ : ∃ y : Nat, y = (gN S16 0 8) := ⟨_, rfl⟩
          obtain ⟨ho17, hw⟩ := hw o17 eo17
          rw [← eo17]
          refine gf_w_3 hx hb hts hiX10 hown hK hn hH ho17 lk3 dX11_cut_76 ?_
          refine lv_iconst (v := 1) hx hb dX11_cut_79 (by decide +kernel) ?_
          refine lv_isub hx hb dX11_cut_80 ?_
          exact k_iret hx hb hr hlocks hK hN hH hw dX11_cut_81
        · replace hw := hw.2 hc11
          refine lv_bipush (v := -2) hx hb dX11_cut_46 (by decide +kernel) ?_
          exact k_iret hx hb hr hlocks hK hN hH hw dX11_cut_48
      · replace hw := hw.2 hc8
        refine lv_bipush (v := -4) hx hb dX11_cut_33 (by decide +kernel) ?_
        exact k_iret hx hb hr hlocks hK hN hH hw dX11_cut_35
    · replace hw := hw.2 hc4
      refine lv_iconst (v := -1) hx hb dX11_cut_13 (by decide +kernel) ?_
      exact k_iret hx hb hr hlocks hK hN hH hw dX11_cut_14
