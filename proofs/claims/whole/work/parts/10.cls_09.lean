def wp_X11_many (a1 : Int32) (S : St) (Q : Int32 → St → Prop) : Prop := ((a1 = 0 → (∀ o2 : Nat, o2 = (gN S 0 8) → isW o2 ∧ Q (gI S o2 3) S)) ∧ (¬ a1 = 0 → ((a1 = 1 → (∀ o4 : Nat, o4 = (gN S 0 8) → isW o4 ∧ wp_X10_countLit o4 S (fun r6 S5 => Q r6 S5))) ∧ (¬ a1 = 1 → ((a1 = 2 → Q (gI S 0 11) S) ∧ (¬ a1 = 2 → ((a1 = 3 → Q (gI S 1 1) S) ∧ (¬ a1 = 3 → ((a1 = 4 → Q (gI S 7 1) S) ∧ (¬ a1 = 4 → Q (-1 : Int32) S))))))))))
set_option maxHeartbeats 4000000 in
set_option maxRecDepth 100000 in
theorem c_X11_many (l : Launch) (D : va_G) (kA : Nat → ClassId) (ly : Nat → Nat) (n : List Nat) (hn : ∀ c, c < 59 → c ∈ n) (A : Nat → Prop) (a1 : Int32) : Ci l yX11_many wsX11_many 2 44 (Gp D (Ec kA ly) ly n A kA) A [.ref (ly 0), .int a1] (wp_X11_many a1) := by
  intro S Q
  refine Met.ofW (cc := cX11_many) (maxL := 2) (ret := (some .int)) (by decide) rfl ?_
  intro p e s m args below meth c s₁ B hml hv
  obtain ⟨rfl, ⟨hP, hD, hK, hN⟩, hw⟩ := hv
  have hx := B.exec
  have hb := B.bytes
  have hr := B.returns
  have hts := atoms_spec (ws := wsX11_many) B.pre
  have hown : s.vm.findClass RX11 = some m.cls := findClass_of_methodNamed B.named
  have hlocks := B.notSynchronized
  have hH : Hp D (Ec kA ly) ly n A s.heap S s.heap [] := ⟨hP, hD, va_S.rf⟩
  have hiX11 : ∀ w ∈ u_ws RX11 TX11 12, w ∈ wsX11_many := by decide +kernel
  have hiX10 : ∀ w ∈ u_ws RX10 TX10 6, w ∈ wsX11_many := by decide +kernel
  have hiX4 : ∀ w ∈ u_ws RX4 TX4 5, w ∈ wsX11_many := by decide +kernel
  have hiX9 : ∀ w ∈ u_ws RX9 TX9 3, w ∈ wsX11_many := by decide +kernel
  have lk0 := hts (.fieldLink RX11 53 "SlowPanes" "world" "LSlowPanes$World;") (by decide +kernel)
  have lk1 := hts (.fieldLink RX11 84 "SlowPanes$World" "count" "I") (by decide +kernel)
  have lk2 := hts (.fieldLink RX11 63 "SlowPanes" "rowCount" "I") (by decide +kernel)
  have lk3 := hts (.fieldLink RX11 19 "SlowPanes" "tape" "LSlowPanes$Quarry;") (by decide +kernel)
  have lk4 := hts (.fieldLink RX11 67 "SlowPanes$Quarry" "length" "I") (by decide +kernel)
  have lk5 := hts (.fieldLink RX11 42 "SlowPanes" "trace" "LSlowPanes$Trace;") (by decide +kernel)
  have lk6 := hts (.fieldLink RX11 272 "SlowPanes$Trace" "count" "I") (by decide +kernel)
  have hl := lv_entry ([.ref (ly 0), .int a1]) (n := 2) (Nat.le_of_ble_eq_true rfl)
  rw [lg_entry_eq]
  generalize (lg_sl ([.ref (ly 0), .int a1]) ++ List.replicate (2 - (lg_sl ([.ref (ly 0), .int a1])).length) Slot.unset).toArray = ls at hl ⊢
  have hl : lv_has ls 2 [(0, .ref (ly 0)), (1, .int a1)] := hl
  rw [wp_X11_many] at hw
  refine lv_iload_n hx hb dX11_many_0 rfl (lv_at hl 1 rfl) ?_
  by_cases hc1 : a1 = 0
  · replace hw := hw.1 hc1
    refine lv_tableIn (tgt := 36) hx hb dX11_many_1 (by rw [hc1]; first | done | decide) (by rw [hc1]; first | done | decide) (by rw [hc1]; first | done | rfl) (by decide) ?_
    refine lv_aload_n hx hb dX11_many_36 rfl (lv_at hl 0 rfl) ?_
    refine gf_this_8 hx hb hts hiX11 hown hK hn hH lk0 dX11_many_37 ?_
    obtain ⟨o2, eo2⟩ : ∃ y : Nat, y = (gN S 0 8) := ⟨_, rfl⟩
    obtain ⟨ho2, hw⟩ := hw o2 eo2
    rw [← eo2]
    refine gf_w_3 hx hb hts hiX10 hown hK hn hH ho2 lk1 dX11_many_40 ?_
    exact k_iret hx hb hr hlocks hK hN hH hw dX11_many_43
  · replace hw := hw.2 hc1
    by_cases hc3 : a1 = 1
    · replace hw := hw.1 hc3
      refine lv_tableIn (tgt := 44) hx hb dX11_many_1 (by rw [hc3]; first | done | decide) (by rw [hc3]; first | done | decide) (by rw [hc3]; first | done | rfl) (by decide) ?_
      refine lv_aload_n hx hb dX11_many_44 rfl (lv_at hl 0 rfl) ?_
      refine gf_this_8 hx hb hts hiX11 hown hK hn hH lk0 dX11_many_45 ?_
      obtain ⟨o4, eo4⟩ : ∃ y : Nat, y = (gN S 0 8) := ⟨_, rfl⟩
      obtain ⟨ho4, hw⟩ := hw o4 eo4
      rw [← eo4]
      refine k_afti (va_runV (As := []) (rest := []) ⟨hx, hb, hml, hown, hts⟩ (c_X10_countLit l D kA ly n hn A o4 S _) (cwV 0 hts gX11_many_X10_countLit rfl rfl rfl (by decide +kernel) ⟨(Nat.le_of_ble_eq_true rfl), (Nat.le_of_ble_eq_true rfl)⟩) ⟨k_blind, (k_recv hK hH (w_lt0 hn ho4) (Ec_w ho4) rfl), k_pre hK hN hH hw⟩ rfl rfl hl.1 rfl (lv_room (Nat.le_of_ble_eq_true rfl)) dX11_many_48 ⟨Nat.le_refl _, Nat.le_refl _⟩) hH (fun r6 S5 H locs hw hH => ?_)
      exact k_iret hx hb hr hlocks hK hN hH hw dX11_many_51
    · replace hw := hw.2 hc3
      by_cases hc7 : a1 = 2
      · replace hw := hw.1 hc7
        refine lv_tableIn (tgt := 52) hx hb dX11_many_1 (by rw [hc7]; first | done | decide) (by rw [hc7]; first | done | decide) (by rw [hc7]; first | done | rfl) (by decide) ?_
        refine lv_aload_n hx hb dX11_many_52 rfl (lv_at hl 0 rfl) ?_
        refine gf_this_11 hx hb hts hiX11 hown hK hn hH lk2 dX11_many_53 ?_
        exact k_iret hx hb hr hlocks hK hN hH hw dX11_many_56
      · replace hw := hw.2 hc7
        by_cases hc8 : a1 = 3
        · replace hw := hw.1 hc8
          refine lv_tableIn (tgt := 57) hx hb dX11_many_1 (by rw [hc8]; first | done | decide) (by rw [hc8]; first | done | decide) (by rw [hc8]; first | done | rfl) (by decide) ?_
          refine lv_aload_n hx hb dX11_many_57 rfl (lv_at hl 0 rfl) ?_
          refine gf_this_1 hx hb hts hiX11 hown hK hn hH lk3 dX11_many_58 ?_
          refine gf_tape_1 hx hb hts hiX4 hown hK hn hH lk4 dX11_many_61 ?_
          exact k_iret hx hb hr hlocks hK hN hH hw dX11_many_64
        · replace hw := hw.2 hc8
          by_cases hc9 : a1 = 4
          · replace hw := hw.1 hc9
            refine lv_tableIn (tgt := 65) hx hb dX11_many_1 (by rw [hc9]; first | done | decide) (by rw [hc9]; first | done | decide) (by rw [hc9]; first | done | rfl) (by decide) ?_
            refine lv_aload_n hx hb dX11_many_65 rfl (lv_at hl 0 rfl) ?_
            refine gf_this_6 hx hb hts hiX11 hown hK hn hH lk5 dX11_many_66 ?_
            refine gf_tr_1 hx hb hts hiX9 hown hK hn hH lk6 dX11_many_69 ?_
            exact k_iret hx hb hr hlocks hK hN hH hw dX11_many_72
          · replace hw := hw.2 hc9
            refine lv_tableOut (tgt := 73) hx hb dX11_many_1 (tb_out5_0 hc1 hc3 hc7 hc8 hc9) (by decide) ?_
            refine lv_iconst (v := -1) hx hb dX11_many_73 (by decide +kernel) ?_
            exact k_iret hx hb hr hlocks hK hN hH hw dX11_many_74
def wp_X11_keep  (S : St) (Q : Int32 → St → Prop) : Prop := (∀ o1 : Nat, o1 = (gN S 0 8) → isW o1 ∧ wp_X10_copyFrom 9 o1 S (fun S2 => (∀ S3 : St, S3 = sI S2 0 10 (1 : Int32) → Q (1 : Int32) S3)))
set_option maxHeartbeats 4000000 in
set_option maxRecDepth 100000 in
theorem c_X11_keep (l : Launch) (D : va_G) (kA : Nat → ClassId) (ly : Nat → Nat) (n : List Nat) (hn : ∀ c, c < 59 → c ∈ n) (A : Nat → Prop)  : Ci l yX11_keep wsX11_keep 3 103 (Gp D (Ec kA ly) ly n A kA) A [.ref (ly 0)] (wp_X11_keep) := by
  intro S Q
  refine Met.ofW (cc := cX11_keep) (maxL := 1) (ret := (some .int)) (by decide) rfl ?_
  intro p e s m args below meth c s₁ B hml hv
  obtain ⟨rfl, ⟨hP, hD, hK, hN⟩, hw⟩ := hv
  have hx := B.exec
  have hb := B.bytes
  have hr := B.returns
  have hts := atoms_spec (ws := wsX11_keep) B.pre
  have hown : s.vm.findClass RX11 = some m.cls := findClass_of_methodNamed B.named
  have hlocks := B.notSynchronized
  have hH : Hp D (Ec kA ly) ly n A s.heap S s.heap [] := ⟨hP, hD, va_S.rf⟩
  have hiX11 : ∀ w ∈ u_ws RX11 TX11 12, w ∈ wsX11_keep := by decide +kernel
  have lk0 := hts (.fieldLink RX11 49 "SlowPanes" "kept" "LSlowPanes$World;") (by decide +kernel)
  have lk1 := hts (.fieldLink RX11 53 "SlowPanes" "world" "LSlowPanes$World;") (by decide +kernel)
  have lk2 := hts (.fieldLink RX11 59 "SlowPanes" "isKept" "Z") (by decide +kernel)
  have hl := lv_entry ([.ref (ly 0)]) (n := 1) (Nat.le_of_ble_eq_true rfl)
  rw [lg_entry_eq]
  generalize (lg_sl ([.ref (ly 0)]) ++ List.replicate (1 - (lg_sl ([.ref (ly 0)])).length) Slot.unset).toArray = ls at hl ⊢
  have hl : lv_has ls 1 [(0, .ref (ly 0))] := hl
  rw [wp_X11_keep] at hw
  refine lv_aload_n hx hb dX11_keep_0 rfl (lv_at hl 0 rfl) ?_
  refine gf_this_7 hx hb hts hiX11 hown hK hn hH lk0 dX11_keep_1 ?_
  refine lv_aload_n hx hb dX11_keep_4 rfl (lv_at hl 0 rfl) ?_
  refine gf_this_8 hx hb hts hiX11 hown hK hn hH lk1 dX11_keep_5 ?_
  obtain ⟨o1, eo1⟩ : ∃ y : Nat, y = (gN S 0 8) := ⟨_, rfl⟩
  obtain ⟨ho1, hw⟩ := hw o1 eo1
  rw [← eo1]
  refine k_aftv (va_runV (As := [.ref (ly o1)]) (rest := []) ⟨hx, hb, hml, hown, hts⟩ (c_X10_copyFrom l D kA ly n hn A 9 o1 S _) (cwV 1 hts gX11_keep_X10_copyFrom rfl rfl rfl (by decide +kernel) ⟨(Nat.le_of_ble_eq_true rfl), (Nat.le_of_ble_eq_true rfl)⟩) ⟨k_blind, (k_recv hK hH (w_lt0 hn isW9) (Ec_w isW9) rfl), k_pre hK hN hH hw⟩ rfl rfl hl.1 rfl (lv_room (Nat.le_of_ble_eq_true rfl)) dX11_keep_8 ⟨Nat.le_refl _, Nat.le_refl _⟩) hH (fun S2 H locs hw hH => ?_)
  refine lv_aload_n hx hb dX11_keep_11 rfl (lv_at hl 0 rfl) ?_
  refine lv_iconst (v := 1) hx hb dX11_keep_12 (by decide +kernel) ?_
  refine pf_this_10 hx hb hts hiX11 hown hK hn hH lk2 isB_1 dX11_keep_13 (fun S3 H locs eS3 hH => ?_)
  replace hw := hw S3 eS3
  refine lv_iconst (v := 1) hx hb dX11_keep_16 (by decide +kernel) ?_
  exact k_iret hx hb hr hlocks hK hN hH hw dX11_keep_17
def wp_X11_again  (S : St) (Q : Int32 → St → Prop) : Prop := (((gI S 0 10) = 0 → Q (-3 : Int32) S) ∧ (¬ (gI S 0 10) = 0 → (∀ o2 : Nat, o2 = (gN S 0 8) → isW o2 ∧ wp_X10_copyFrom o2 9 S (fun S3 => (∀ o4 : Nat, o4 = (gN S3 0 8) → isW o4 ∧ Q (gI S3 o4 3) S3)))))
set_option maxHeartbeats 4000000 in
set_option maxRecDepth 100000 in
theorem c_X11_again (l : Launch) (D : va_G) (kA : Nat → ClassId) (ly : Nat → Nat) (n : List Nat) (hn : ∀ c, c < 59 → c ∈ n) (A : Nat → Prop)  : Ci l yX11_again wsX11_again 3 103 (Gp D (Ec kA ly) ly n A kA) A [.ref (ly 0)] (wp_X11_again) := by
  intro S Q
  refine Met.ofW (cc := cX11_again) (maxL := 1) (ret := (some .int)) (by decide) rfl ?_
  intro p e s m args below meth c s₁ B hml hv
  obtain ⟨rfl, ⟨hP, hD, hK, hN⟩, hw⟩ := hv
  have hx := B.exec
  have hb := B.bytes
  have hr := B.returns
  have hts := atoms_spec (ws := wsX11_again) B.pre
  have hown : s.vm.findClass RX11 = some m.cls := findClass_of_methodNamed B.named
  have hlocks := B.notSynchronized
  have hH : Hp D (Ec kA ly) ly n A s.heap S s.heap [] := ⟨hP, hD, va_S.rf⟩
  have hiX11 : ∀ w ∈ u_ws RX11 TX11 12, w ∈ wsX11_again := by decide +kernel
  have hiX10 : ∀ w ∈ u_ws RX10 TX10 6, w ∈ wsX11_again := by decide +kernel
  have lk0 := hts (.fieldLink RX11 59 "SlowPanes" "isKept" "Z") (by decide +kernel)
  have lk1 := hts (.fieldLink RX11 53 "SlowPanes" "world" "LSlowPanes$World;") (by decide +kernel)
  have lk2 := hts (.fieldLink RX11 49 "SlowPanes" "kept" "LSlowPanes$World;") (by decide +kernel)
  have lk3 := hts (.fieldLink RX11 84 "SlowPanes$World" "count" "I") (by decide +kernel)
  have hl := lv_entry ([.ref (ly 0)]) (n := 1) (Nat.le_of_ble_eq_true rfl)
  rw [lg_entry_eq]
  generalize (lg_sl ([.ref (ly 0)]) ++ List.replicate (1 - (lg_sl ([.ref (ly 0)])).length) Slot.unset).toArray = ls at hl ⊢
  have hl : lv_has ls 1 [(0, .ref (ly 0))] := hl
  rw [wp_X11_again] at hw
  refine lv_aload_n hx hb dX11_again_0 rfl (lv_at hl 0 rfl) ?_
  refine gf_this_10 hx hb hts hiX11 hown hK hn hH lk0 dX11_again_1 ?_
  refine lv_if_ne (tgt := 10) hx hb dX11_again_4 (by decide) (fun hc1 => ?_) (fun hc1 => ?_)
  · replace hw := hw.2 hc1
    refine lv_aload_n hx hb dX11_again_10 rfl (lv_at hl 0 rfl) ?_
    refine gf_this_8 hx hb hts hiX11 hown hK hn hH lk1 dX11_again_11 ?_
    obtain ⟨o2, eo2⟩ : ∃ y : Nat, y = (gN S 0 8) := ⟨_, rfl⟩
    obtain ⟨ho2, hw⟩ := hw o2 eo2
    rw [← eo2]
    refine lv_aload_n hx hb dX11_again_14 rfl (lv_at hl 0 rfl) ?_
    refine gf_this_7 hx hb hts hiX11 hown hK hn hH lk2 dX11_again_15 ?_
    refine k_aftv (va_runV (As := [.ref (ly 9)]) (rest := []) ⟨hx, hb, hml, hown, hts⟩ (c_X10_copyFrom l D kA ly n hn A o2 9 S _) (cwV 1 hts gX11_again_X10_copyFrom rfl rfl rfl (by decide +kernel) ⟨(Nat.le_of_ble_eq_true rfl), (Nat.le_of_ble_eq_true rfl)⟩) ⟨k_blind, (k_recv hK hH (w_lt0 hn ho2) (Ec_w ho2) rfl), k_pre hK hN hH hw⟩ rfl rfl hl.1 rfl (lv_room (Nat.le_of_ble_eq_true rfl)) dX11_again_18 ⟨Nat.le_refl _, Nat.le_refl _⟩) hH (fun S3 H locs hw hH => ?_)
    refine lv_aload_n hx hb dX11_again_21 rfl (lv_at hl 0 rfl) ?_
    refine gf_this_8 hx hb hts hiX11 hown hK hn hH lk1 dX11_again_22 ?_
    obtain ⟨o4, eo4⟩ : ∃ y : Nat, y = (gN S3 0 8) := ⟨_, rfl⟩
    obtain ⟨ho4, hw⟩ := hw o4 eo4
    rw [← eo4]
    refine gf_w_3 hx hb hts hiX10 hown hK hn hH ho4 lk3 dX11_again_25 ?_
    exact k_iret hx hb hr hlocks hK hN hH hw dX11_again_28
  · replace hw := hw.1 hc1
    refine lv_bipush (v := -3) hx hb dX11_again_7 (by decide +kernel) ?_
    exact k_iret hx hb hr hlocks hK hN hH hw dX11_again_9
