def wp_X8_shows_c8 (n : List Nat) (o : Nat) (a1 : Int32) (S : St) (Q : Int32 → St → Prop) : Prop := (isTh n S 8 o ∧ wp_X9_begin (10 : Int32) S (fun S1 => (isTh n S1 8 o ∧ Q (a1 + (gI S1 o 0)) S1)))
set_option maxHeartbeats 4000000 in
set_option maxRecDepth 100000 in
theorem c_X8_shows_c8 (l : Launch) (D : va_G) (kA : Nat → ClassId) (ly : Nat → Nat) (n : List Nat) (hn : ∀ c, c < 59 → c ∈ n) (A : Nat → Prop) (o : Nat) (a1 : Int32) : Ci l yX8_shows (wz yX8_shows cX8_shows 2 (some .int)) 1 21 (Gp D (Ec kA ly) ly n A kA) A [.ref (ly o), .int a1] (wp_X8_shows_c8 n o a1) := by
  intro S Q
  refine Met.ofW (cc := cX8_shows) (maxL := 2) (ret := (some .int)) (by decide) rfl ?_
  intro p e s m args below meth c s₁ B hml hv
  obtain ⟨rfl, ⟨hP, hD, hK, hN⟩, hw⟩ := hv
  have hx := B.exec
  have hb := B.bytes
  have hr := B.returns
  have hts0 := atoms_spec (ws := (wz yX8_shows cX8_shows 2 (some .int))) B.pre
  have hts : ∀ w ∈ wsX8_shows, w.before _ s = true := fun w h => hts0 w (wz_in (List.mem_append_right _ (List.mem_append_right _ (List.mem_append_right _ (List.mem_append_right _ (List.mem_append_right _ (List.mem_append_right _ (List.mem_append_right _ (List.mem_append_right _ (List.mem_append_right _ (List.mem_append_left _ h)))))))))))
  have hown : s.vm.findClass RX8 = some m.cls := findClass_of_methodNamed B.named
  have hlocks := B.notSynchronized
  have hH : Hp D (Ec kA ly) ly n A s.heap S s.heap [] := ⟨hP, hD, va_S.rf⟩
  have hiX8 : ∀ w ∈ u_ws RX8 TX8 3, w ∈ wsX8_shows := by decide +kernel
  have lk0 := hts (.fieldLink RX8 16 "SlowPanes$Thing" "trace" "LSlowPanes$Trace;") (by decide +kernel)
  have lk1 := hts (.fieldLink RX8 7 "SlowPanes$Thing" "n" "I") (by decide +kernel)
  have hl := lv_entry ([.ref (ly o), .int a1]) (n := 2) (Nat.le_of_ble_eq_true rfl)
  rw [lg_entry_eq]
  generalize (lg_sl ([.ref (ly o), .int a1]) ++ List.replicate (2 - (lg_sl ([.ref (ly o), .int a1])).length) Slot.unset).toArray = ls at hl ⊢
  have hl : lv_has ls 2 [(0, .ref (ly o)), (1, .int a1)] := hl
  rw [wp_X8_shows_c8] at hw
  obtain ⟨ho, hw⟩ := hw
  refine lv_aload_n hx hb dX8_shows_0 rfl (lv_at hl 0 rfl) ?_
  refine k_get (ci := 8) (C := RX8) (T := TX8) (N := 3) hx hb hts hiX8 hown hK hH ho.2.1 (Ec_th ho) rfl 2 (by decide) lk0 (fun _ h => h) rfl dX8_shows_1 ?_
  refine lv_bipush (v := 10) hx hb dX8_shows_4 (by decide +kernel) ?_
  refine k_aftv (va_runV (As := [.int (10 : Int32)]) (rest := []) ⟨hx, hb, hml, hown, hts⟩ (c_X9_begin l D kA ly n hn A (10 : Int32) S _) (cwV 1 hts gX8_shows_X9_begin rfl rfl rfl (by decide +kernel) ⟨(Nat.le_of_ble_eq_true rfl), (Nat.le_of_ble_eq_true rfl)⟩) ⟨k_blind, (k_recv hK hH (lt_n hn (by decide)) Ec_7 rfl), k_pre hK hN hH hw⟩ rfl rfl hl.1 rfl (lv_room (Nat.le_of_ble_eq_true rfl)) dX8_shows_6 ⟨Nat.le_refl _, Nat.le_refl _⟩) hH (fun S1 H locs hw hH => ?_)
  refine lv_iload_n hx hb dX8_shows_9 rfl (lv_at hl 1 rfl) ?_
  refine lv_aload_n hx hb dX8_shows_10 rfl (lv_at hl 0 rfl) ?_
  obtain ⟨hs2, hw⟩ := hw
  refine k_get (ci := 8) (C := RX8) (T := TX8) (N := 3) hx hb hts hiX8 hown hK hH hs2.2.1 (Ec_th hs2) rfl 0 (by decide) lk1 (fun _ h => h) rfl dX8_shows_11 ?_
  refine lv_iadd hx hb dX8_shows_14 ?_
  exact k_iret hx hb hr hlocks hK hN hH hw dX8_shows_15
def wp_X8_moves_c8 (n : List Nat) (o : Nat) (a1 : Int32) (S : St) (Q : Int32 → St → Prop) : Prop := (isTh n S 8 o ∧ wp_X9_begin (11 : Int32) S (fun S1 => (isTh n S1 8 o ∧ wp_X8_shows_c8 n o a1 S1 (fun r4 S3 => Q (r4 * (2 : Int32)) S3))))
set_option maxHeartbeats 4000000 in
set_option maxRecDepth 100000 in
theorem c_X8_moves_c8 (l : Launch) (D : va_G) (kA : Nat → ClassId) (ly : Nat → Nat) (n : List Nat) (hn : ∀ c, c < 59 → c ∈ n) (A : Nat → Prop) (o : Nat) (a1 : Int32) : Ci l yX8_moves (wz yX8_moves cX8_moves 2 (some .int)) 2 42 (Gp D (Ec kA ly) ly n A kA) A [.ref (ly o), .int a1] (wp_X8_moves_c8 n o a1) := by
  intro S Q
  refine Met.ofW (cc := cX8_moves) (maxL := 2) (ret := (some .int)) (by decide) rfl ?_
  intro p e s m args below meth c s₁ B hml hv
  obtain ⟨rfl, ⟨hP, hD, hK, hN⟩, hw⟩ := hv
  have hx := B.exec
  have hb := B.bytes
  have hr := B.returns
  have hts0 := atoms_spec (ws := (wz yX8_moves cX8_moves 2 (some .int))) B.pre
  have hts : ∀ w ∈ wsX8_moves, w.before _ s = true := fun w h => hts0 w (wz_in (List.mem_append_right _ (List.mem_append_right _ (List.mem_append_right _ (List.mem_append_right _ (List.mem_append_right _ (List.mem_append_right _ (List.mem_append_right _ (List.mem_append_right _ (List.mem_append_right _ (List.mem_append_right _ (List.mem_append_left _ h))))))))))))
  have hown : s.vm.findClass RX8 = some m.cls := findClass_of_methodNamed B.named
  have hlocks := B.notSynchronized
  have hH : Hp D (Ec kA ly) ly n A s.heap S s.heap [] := ⟨hP, hD, va_S.rf⟩
  have hiX8 : ∀ w ∈ u_ws RX8 TX8 3, w ∈ wsX8_moves := by decide +kernel
  have lk0 := hts (.fieldLink RX8 16 "SlowPanes$Thing" "trace" "LSlowPanes$Trace;") (by decide +kernel)
  have hl := lv_entry ([.ref (ly o), .int a1]) (n := 2) (Nat.le_of_ble_eq_true rfl)
  rw [lg_entry_eq]
  generalize (lg_sl ([.ref (ly o), .int a1]) ++ List.replicate (2 - (lg_sl ([.ref (ly o), .int a1])).length) Slot.unset).toArray = ls at hl ⊢
  have hl : lv_has ls 2 [(0, .ref (ly o)), (1, .int a1)] := hl
  rw [wp_X8_moves_c8] at hw
  obtain ⟨ho, hw⟩ := hw
  refine lv_aload_n hx hb dX8_moves_0 rfl (lv_at hl 0 rfl) ?_
  refine k_get (ci := 8) (C := RX8) (T := TX8) (N := 3) hx hb hts hiX8 hown hK hH ho.2.1 (Ec_th ho) rfl 2 (by decide) lk0 (fun _ h => h) rfl dX8_moves_1 ?_
  refine lv_bipush (v := 11) hx hb dX8_moves_4 (by decide +kernel) ?_
  refine k_aftv (va_runV (As := [.int (11 : Int32)]) (rest := []) ⟨hx, hb, hml, hown, hts⟩ (c_X9_begin l D kA ly n hn A (11 : Int32) S _) (cwV 1 hts gX8_moves_X9_begin rfl rfl rfl (by decide +kernel) ⟨(Nat.le_of_ble_eq_true rfl), (Nat.le_of_ble_eq_true rfl)⟩) ⟨k_blind, (k_recv hK hH (lt_n hn (by decide)) Ec_7 rfl), k_pre hK hN hH hw⟩ rfl rfl hl.1 rfl (lv_room (Nat.le_of_ble_eq_true rfl)) dX8_moves_6 ⟨Nat.le_refl _, Nat.le_refl _⟩) hH (fun S1 H locs hw hH => ?_)
  refine lv_aload_n hx hb dX8_moves_9 rfl (lv_at hl 0 rfl) ?_
  refine lv_iload_n hx hb dX8_moves_10 rfl (lv_at hl 1 rfl) ?_
  obtain ⟨hs2, hw⟩ := hw
  refine k_afti (va_runV (As := [.int a1]) (rest := []) ⟨hx, hb, hml, hown, hts0⟩ (c_X8_shows_c8 l D kA ly n hn A o a1 S1 _) (cwV 1 hts0 (good_pre gX8_moves_X8_shows (fun w h => wz_in (List.mem_append_right _ (List.mem_append_right _ (List.mem_append_right _ (List.mem_append_right _ (List.mem_append_right _ (List.mem_append_right _ (List.mem_append_right _ (List.mem_append_right _ (List.mem_append_right _ (List.mem_append_right _ (List.mem_append_left _ h)))))))))))) (wz_goodIn (fun w h => List.mem_cons_of_mem _ h) (List.mem_append_right _ (List.mem_append_right _ (List.mem_append_right _ (List.mem_append_right _ (List.mem_append_right _ (List.mem_append_right _ (List.mem_append_right _ (List.mem_append_right _ (List.mem_append_right _ (List.mem_append_left _ List.mem_cons_self)))))))))))) rfl rfl rfl (by decide +kernel) ⟨(Nat.le_of_ble_eq_true rfl), (Nat.le_of_ble_eq_true rfl)⟩) ⟨k_blind, (k_recv hK hH hs2.2.1 (Ec_th hs2) rfl), k_pre hK hN hH hw⟩ rfl rfl hl.1 rfl (lv_room (Nat.le_of_ble_eq_true rfl)) dX8_moves_11 ⟨Nat.le_refl _, Nat.le_refl _⟩) hH (fun r4 S3 H locs hw hH => ?_)
  refine lv_iconst (v := 2) hx hb dX8_moves_14 (by decide +kernel) ?_
  refine lv_imul hx hb dX8_moves_15 ?_
  exact k_iret hx hb hr hlocks hK hN hH hw dX8_moves_16
def wp_X8_shares_c8 (n : List Nat) (o : Nat) (a1 : Int32) (S : St) (Q : Int32 → St → Prop) : Prop := (isTh n S 8 o ∧ wp_X9_begin (12 : Int32) S (fun S1 => (isTh n S1 8 o ∧ wp_X9_part a1 ((gI S1 o 1) - (gI S1 o 0)) S1 (fun r4 S3 => Q r4 S3))))
set_option maxHeartbeats 4000000 in
set_option maxRecDepth 100000 in
theorem c_X8_shares_c8 (l : Launch) (D : va_G) (kA : Nat → ClassId) (ly : Nat → Nat) (n : List Nat) (hn : ∀ c, c < 59 → c ∈ n) (A : Nat → Prop) (o : Nat) (a1 : Int32) : Ci l yX8_shares (wz yX8_shares cX8_shares 2 (some .int)) 1 22 (Gp D (Ec kA ly) ly n A kA) A [.ref (ly o), .int a1] (wp_X8_shares_c8 n o a1) := by
  intro S Q
  refine Met.ofW (cc := cX8_shares) (maxL := 2) (ret := (some .int)) (by decide) rfl ?_
  intro p e s m args below meth c s₁ B hml hv
  obtain ⟨rfl, ⟨hP, hD, hK, hN⟩, hw⟩ := hv
  have hx := B.exec
  have hb := B.bytes
  have hr := B.returns
  have hts0 := atoms_spec (ws := (wz yX8_shares cX8_shares 2 (some .int))) B.pre
  have hts : ∀ w ∈ wsX8_shares, w.before _ s = true := fun w h => hts0 w (wz_in (List.mem_append_right _ (List.mem_append_right _ (List.mem_append_right _ (List.mem_append_right _ (List.mem_append_right _ (List.mem_append_right _ (List.mem_append_right _ (List.mem_append_right _ (List.mem_append_right _ (List.mem_append_right _ (List.mem_append_right _ (List.mem_append_left _ h)))))))))))))
  have hown : s.vm.findClass RX8 = some m.cls := findClass_of_methodNamed B.named
  have hlocks := B.notSynchronized
  have hH : Hp D (Ec kA ly) ly n A s.heap S s.heap [] := ⟨hP, hD, va_S.rf⟩
  have hiX8 : ∀ w ∈ u_ws RX8 TX8 3, w ∈ wsX8_shares := by decide +kernel
  have lk0 := hts (.fieldLink RX8 16 "SlowPanes$Thing" "trace" "LSlowPanes$Trace;") (by decide +kernel)
  have lk1 := hts (.fieldLink RX8 13 "SlowPanes$Thing" "a" "I") (by decide +kernel)
  have lk2 := hts (.fieldLink RX8 7 "SlowPanes$Thing" "n" "I") (by decide +kernel)
  have hl := lv_entry ([.ref (ly o), .int a1]) (n := 2) (Nat.le_of_ble_eq_true rfl)
  rw [lg_entry_eq]
  generalize (lg_sl ([.ref (ly o), .int a1]) ++ List.replicate (2 - (lg_sl ([.ref (ly o), .int a1])).length) Slot.unset).toArray = ls at hl ⊢
  have hl : lv_has ls 2 [(0, .ref (ly o)), (1, .int a1)] := hl
  rw [wp_X8_shares_c8] at hw
  obtain ⟨ho, hw⟩ := hw
  refine lv_aload_n hx hb dX8_shares_0 rfl (lv_at hl 0 rfl) ?_
  refine k_get (ci := 8) (C := RX8) (T := TX8) (N := 3) hx hb hts hiX8 hown hK hH ho.2.1 (Ec_th ho) rfl 2 (by decide) lk0 (fun _ h => h) rfl dX8_shares_1 ?_
  refine lv_bipush (v := 12) hx hb dX8_shares_4 (by decide +kernel) ?_
  refine k_aftv (va_runV (As := [.int (12 : Int32)]) (rest := []) ⟨hx, hb, hml, hown, hts⟩ (c_X9_begin l D kA ly n hn A (12 : Int32) S _) (cwV 1 hts gX8_shares_X9_begin rfl rfl rfl (by decide +kernel) ⟨(Nat.le_of_ble_eq_true rfl), (Nat.le_of_ble_eq_true rfl)⟩) ⟨k_blind, (k_recv hK hH (lt_n hn (by decide)) Ec_7 rfl), k_pre hK hN hH hw⟩ rfl rfl hl.1 rfl (lv_room (Nat.le_of_ble_eq_true rfl)) dX8_shares_6 ⟨Nat.le_refl _, Nat.le_refl _⟩) hH (fun S1 H locs hw hH => ?_)
  refine lv_aload_n hx hb dX8_shares_9 rfl (lv_at hl 0 rfl) ?_
  obtain ⟨hs2, hw⟩ := hw
  refine k_get (ci := 8) (C := RX8) (T := TX8) (N := 3) hx hb hts hiX8 hown hK hH hs2.2.1 (Ec_th hs2) rfl 2 (by decide) lk0 (fun _ h => h) rfl dX8_shares_10 ?_
  refine lv_iload_n hx hb dX8_shares_13 rfl (lv_at hl 1 rfl) ?_
  refine lv_aload_n hx hb dX8_shares_14 rfl (lv_at hl 0 rfl) ?_
  refine k_get (ci := 8) (C := RX8) (T := TX8) (N := 3) hx hb hts hiX8 hown hK hH hs2.2.1 (Ec_th hs2) rfl 1 (by decide) lk1 (fun _ h => h) rfl dX8_shares_15 ?_
  refine lv_aload_n hx hb dX8_shares_18 rfl (lv_at hl 0 rfl) ?_
  refine k_get (ci := 8) (C := RX8) (T := TX8) (N := 3) hx hb hts hiX8 hown hK hH hs2.2.1 (Ec_th hs2) rfl 0 (by decide) lk2 (fun _ h => h) rfl dX8_shares_19 ?_
  refine lv_isub hx hb dX8_shares_22 ?_
  refine k_afti (va_runV (As := [.int a1, .int ((gI S1 o 1) - (gI S1 o 0))]) (rest := []) ⟨hx, hb, hml, hown, hts⟩ (c_X9_part l D kA ly n hn A a1 ((gI S1 o 1) - (gI S1 o 0)) S1 _) (cwV 2 hts gX8_shares_X9_part rfl rfl rfl (by decide +kernel) ⟨(Nat.le_of_ble_eq_true rfl), (Nat.le_of_ble_eq_true rfl)⟩) ⟨k_blind, (k_recv hK hH (lt_n hn (by decide)) Ec_7 rfl), k_pre hK hN hH hw⟩ rfl rfl hl.1 rfl (lv_room (Nat.le_of_ble_eq_true rfl)) dX8_shares_23 ⟨Nat.le_refl _, Nat.le_refl _⟩) hH (fun r4 S3 H locs hw hH => ?_)
  exact k_iret hx hb hr hlocks hK hN hH hw dX8_shares_26
def wp_X8_tells_c8 (n : List Nat) (o : Nat) (a1 : Int32) (S : St) (Q : Int32 → St → Prop) : Prop := (isTh n S 8 o ∧ wp_X9_begin (13 : Int32) S (fun S1 => (isTh n S1 8 o ∧ wp_X8_moves_c8 n o a1 S1 (fun r4 S3 => (isTh n S3 8 o ∧ Q (r4 ^^^ (gI S3 o 1)) S3)))))
set_option maxHeartbeats 4000000 in
set_option maxRecDepth 100000 in
theorem c_X8_tells_c8 (l : Launch) (D : va_G) (kA : Nat → ClassId) (ly : Nat → Nat) (n : List Nat) (hn : ∀ c, c < 59 → c ∈ n) (A : Nat → Prop) (o : Nat) (a1 : Int32) : Ci l yX8_tells (wz yX8_tells cX8_tells 2 (some .int)) 3 63 (Gp D (Ec kA ly) ly n A kA) A [.ref (ly o), .int a1] (wp_X8_tells_c8 n o a1) := by
  intro S Q
  refine Met.ofW (cc := cX8_tells) (maxL := 2) (ret := (some .int)) (by decide) rfl ?_
  intro p e s m args below meth c s₁ B hml hv
  obtain ⟨rfl, ⟨hP, hD, hK, hN⟩, hw⟩ := hv
  have hx := B.exec
  have hb := B.bytes
  have hr := B.returns
  have hts0 := atoms_spec (ws := (wz yX8_tells cX8_tells 2 (some .int))) B.pre
  have hts : ∀ w ∈ wsX8_tells, w.before _ s = true := fun w h => hts0 w (wz_in (List.mem_append_right _ (List.mem_append_right _ (List.mem_append_right _ (List.mem_append_right _ (List.mem_append_right _ (List.mem_append_right _ (List.mem_append_right _ (List.mem_append_right _ (List.mem_append_right _ (List.mem_append_right _ (List.mem_append_right _ (List.mem_append_right _ (List.mem_append_left _ h))))))))))))))
  have hown : s.vm.findClass RX8 = some m.cls := findClass_of_methodNamed B.named
  have hlocks := B.notSynchronized
  have hH : Hp D (Ec kA ly) ly n A s.heap S s.heap [] := ⟨hP, hD, va_S.rf⟩
  have hiX8 : ∀ w ∈ u_ws RX8 TX8 3, w ∈ wsX8_tells := by decide +kernel
  have lk0 := hts (.fieldLink RX8 16 "SlowPanes$Thing" "trace" "LSlowPanes$Trace;") (by decide +kernel)
  have lk1 := hts (.fieldLink RX8 13 "SlowPanes$Thing" "a" "I") (by decide +kernel)
  have hl := lv_entry ([.ref (ly o), .int a1]) (n := 2) (Nat.le_of_ble_eq_true rfl)
  rw [lg_entry_eq]
  generalize (lg_sl ([.ref (ly o), .int a1]) ++ List.replicate (2 - (lg_sl ([.ref (ly o), .int a1])).length) Slot.unset).toArray = ls at hl ⊢
  have hl : lv_has ls 2 [(0, .ref (ly o)), (1, .int a1)] := hl
  rw [wp_X8_tells_c8] at hw
  obtain ⟨ho, hw⟩ := hw
  refine lv_aload_n hx hb dX8_tells_0 rfl (lv_at hl 0 rfl) ?_
  refine k_get (ci := 8) (C := RX8) (T := TX8) (N := 3) hx hb hts hiX8 hown hK hH ho.2.1 (Ec_th ho) rfl 2 (by decide) lk0 (fun _ h => h) rfl dX8_tells_1 ?_
  refine lv_bipush (v := 13) hx hb dX8_tells_4 (by decide +kernel) ?_
  refine k_aftv (va_runV (As := [.int (13 : Int32)]) (rest := []) ⟨hx, hb, hml, hown, hts⟩ (c_X9_begin l D kA ly n hn A (13 : Int32) S _) (cwV 1 hts gX8_tells_X9_begin rfl rfl rfl (by decide +kernel) ⟨(Nat.le_of_ble_eq_true rfl), (Nat.le_of_ble_eq_true rfl)⟩) ⟨k_blind, (k_recv hK hH (lt_n hn (by decide)) Ec_7 rfl), k_pre hK hN hH hw⟩ rfl rfl hl.1 rfl (lv_room (Nat.le_of_ble_eq_true rfl)) dX8_tells_6 ⟨Nat.le_refl _, Nat.le_refl _⟩) hH (fun S1 H locs hw hH => ?_)
  refine lv_aload_n hx hb dX8_tells_9 rfl (lv_at hl 0 rfl) ?_
  refine lv_iload_n hx hb dX8_tells_10 rfl (lv_at hl 1 rfl) ?_
  obtain ⟨hs2, hw⟩ := hw
  refine k_afti (va_runV (As := [.int a1]) (rest := []) ⟨hx, hb, hml, hown, hts0⟩ (c_X8_moves_c8 l D kA ly n hn A o a1 S1 _) (cwV 1 hts0 (good_pre gX8_tells_X8_moves (fun w h => wz_in (List.mem_append_right _ (List.mem_append_right _ (List.mem_append_right _ (List.mem_append_right _ (List.mem_append_right _ (List.mem_append_right _ (List.mem_append_right _ (List.mem_append_right _ (List.mem_append_right _ (List.mem_append_right _ (List.mem_append_right _ (List.mem_append_right _ (List.mem_append_left _ h)))))))))))))) (wz_goodIn (fun w h => List.mem_cons_of_mem _ h) (List.mem_append_right _ (List.mem_append_right _ (List.mem_append_right _ (List.mem_append_right _ (List.mem_append_right _ (List.mem_append_right _ (List.mem_append_right _ (List.mem_append_right _ (List.mem_append_right _ (List.mem_append_right _ (List.mem_append_left _ List.mem_cons_self))))))))))))) rfl rfl rfl (by decide +kernel) ⟨(Nat.le_of_ble_eq_true rfl), (Nat.le_of_ble_eq_true rfl)⟩) ⟨k_blind, (k_recv hK hH hs2.2.1 (Ec_th hs2) rfl), k_pre hK hN hH hw⟩ rfl rfl hl.1 rfl (lv_room (Nat.le_of_ble_eq_true rfl)) dX8_tells_11 ⟨Nat.le_refl _, Nat.le_refl _⟩) hH (fun r4 S3 H locs hw hH => ?_)
  refine lv_aload_n hx hb dX8_tells_14 rfl (lv_at hl 0 rfl) ?_
  obtain ⟨hs5, hw⟩ := hw
  refine k_get (ci := 8) (C := RX8) (T := TX8) (N := 3) hx hb hts hiX8 hown hK hH hs5.2.1 (Ec_th hs5) rfl 1 (by decide) lk1 (fun _ h => h) rfl dX8_tells_15 ?_
  refine lv_ixor hx hb dX8_tells_18 ?_
  exact k_iret hx hb hr hlocks hK hN hH hw dX8_tells_19
def wp_X8_shows_c7 (n : List Nat) (o : Nat) (a1 : Int32) (S : St) (Q : Int32 → St → Prop) : Prop := (isTh n S 7 o ∧ wp_X9_begin (10 : Int32) S (fun S1 => (isTh n S1 7 o ∧ Q (a1 + (gI S1 o 0)) S1)))
set_option maxHeartbeats 4000000 in
set_option maxRecDepth 100000 in
theorem c_X8_shows_c7 (l : Launch) (D : va_G) (kA : Nat → ClassId) (ly : Nat → Nat) (n : List Nat) (hn : ∀ c, c < 59 → c ∈ n) (A : Nat → Prop) (o : Nat) (a1 : Int32) : Ci l yX8_shows (wz yX8_shows cX8_shows 2 (some .int)) 1 21 (Gp D (Ec kA ly) ly n A kA) A [.ref (ly o), .int a1] (wp_X8_shows_c7 n o a1) := by
  intro S Q
  refine Met.ofW (cc := cX8_shows) (maxL := 2) (ret := (some .int)) (by decide) rfl ?_
  intro p e s m args below meth c s₁ B hml hv
  obtain ⟨rfl, ⟨hP, hD, hK, hN⟩, hw⟩ := hv
  have hx := B.exec
  have hb := B.bytes
  have hr := B.returns
  have hts0 := atoms_spec (ws := (wz yX8_shows cX8_shows 2 (some .int))) B.pre
  have hts : ∀ w ∈ wsX8_shows, w.before _ s = true := fun w h => hts0 w (wz_in (List.mem_append_right _ (List.mem_append_right _ (List.mem_append_right _ (List.mem_append_right _ (List.mem_append_right _ (List.mem_append_right _ (List.mem_append_right _ (List.mem_append_right _ (List.mem_append_right _ (List.mem_append_left _ h)))))))))))
  have hown : s.vm.findClass RX8 = some m.cls := findClass_of_methodNamed B.named
  have hlocks := B.notSynchronized
  have hH : Hp D (Ec kA ly) ly n A s.heap S s.heap [] := ⟨hP, hD, va_S.rf⟩
  have hiX7 : ∀ w ∈ u_ws RX7 TX7 3, w ∈ wsX8_shows := by decide +kernel
  have lk0 := hts (.fieldLink RX8 16 "SlowPanes$Thing" "trace" "LSlowPanes$Trace;") (by decide +kernel)
  have lk1 := hts (.fieldLink RX8 7 "SlowPanes$Thing" "n" "I") (by decide +kernel)
  have hl := lv_entry ([.ref (ly o), .int a1]) (n := 2) (Nat.le_of_ble_eq_true rfl)
  rw [lg_entry_eq]
  generalize (lg_sl ([.ref (ly o), .int a1]) ++ List.replicate (2 - (lg_sl ([.ref (ly o), .int a1])).length) Slot.unset).toArray = ls at hl ⊢
  have hl : lv_has ls 2 [(0, .ref (ly o)), (1, .int a1)] := hl
  rw [wp_X8_shows_c7] at hw
  obtain ⟨ho, hw⟩ := hw
  refine lv_aload_n hx hb dX8_shows_0 rfl (lv_at hl 0 rfl) ?_
  refine k_get (ci := 7) (C := RX7) (T := TX7) (N := 3) hx hb hts hiX7 hown hK hH ho.2.1 (Ec_th ho) rfl 2 (by decide) lk0 (fun _ h => h) rfl dX8_shows_1 ?_
  refine lv_bipush (v := 10) hx hb dX8_shows_4 (by decide +kernel) ?_
  refine k_aftv (va_runV (As := [.int (10 : Int32)]) (rest := []) ⟨hx, hb, hml, hown, hts⟩ (c_X9_begin l D kA ly n hn A (10 : Int32) S _) (cwV 1 hts gX8_shows_X9_begin rfl rfl rfl (by decide +kernel) ⟨(Nat.le_of_ble_eq_true rfl), (Nat.le_of_ble_eq_true rfl)⟩) ⟨k_blind, (k_recv hK hH (lt_n hn (by decide)) Ec_7 rfl), k_pre hK hN hH hw⟩ rfl rfl hl.1 rfl (lv_room (Nat.le_of_ble_eq_true rfl)) dX8_shows_6 ⟨Nat.le_refl _, Nat.le_refl _⟩) hH (fun S1 H locs hw hH => ?_)
  refine lv_iload_n hx hb dX8_shows_9 rfl (lv_at hl 1 rfl) ?_
  refine lv_aload_n hx hb dX8_shows_10 rfl (lv_at hl 0 rfl) ?_
  obtain ⟨hs2, hw⟩ := hw
  refine k_get (ci := 7) (C := RX7) (T := TX7) (N := 3) hx hb hts hiX7 hown hK hH hs2.2.1 (Ec_th hs2) rfl 0 (by decide) lk1 (fun _ h => h) rfl dX8_shows_11 ?_
  refine lv_iadd hx hb dX8_shows_14 ?_
  exact k_iret hx hb hr hlocks hK hN hH hw dX8_shows_15
def wp_X8_moves_c7 (n : List Nat) (o : Nat) (a1 : Int32) (S : St) (Q : Int32 → St → Prop) : Prop := (isTh n S 7 o ∧ wp_X9_begin (11 : Int32) S (fun S1 => (isTh n S1 7 o ∧ wp_X8_shows_c7 n o a1 S1 (fun r4 S3 => Q (r4 * (2 : Int32)) S3))))
set_option maxHeartbeats 4000000 in
set_option maxRecDepth 100000 in
theorem c_X8_moves_c7 (l : Launch) (D : va_G) (kA : Nat → ClassId) (ly : Nat → Nat) (n : List Nat) (hn : ∀ c, c < 59 → c ∈ n) (A : Nat → Prop) (o : Nat) (a1 : Int32) : Ci l yX8_moves (wz yX8_moves cX8_moves 2 (some .int)) 2 42 (Gp D (Ec kA ly) ly n A kA) A [.ref (ly o), .int a1] (wp_X8_moves_c7 n o a1) := by
  intro S Q
  refine Met.ofW (cc := cX8_moves) (maxL := 2) (ret := (some .int)) (by decide) rfl ?_
  intro p e s m args below meth c s₁ B hml hv
  obtain ⟨rfl, ⟨hP, hD, hK, hN⟩, hw⟩ := hv
  have hx := B.exec
  have hb := B.bytes
  have hr := B.returns
  have hts0 := atoms_spec (ws := (wz yX8_moves cX8_moves 2 (some .int))) B.pre
  have hts : ∀ w ∈ wsX8_moves, w.before _ s = true := fun w h => hts0 w (wz_in (List.mem_append_right _ (List.mem_append_right _ (List.mem_append_right _ (List.mem_append_right _ (List.mem_append_right _ (List.mem_append_right _ (List.mem_append_right _ (List.mem_append_right _ (List.mem_append_right _ (List.mem_append_right _ (List.mem_append_left _ h))))))))))))
  have hown : s.vm.findClass RX8 = some m.cls := findClass_of_methodNamed B.named
  have hlocks := B.notSynchronized
  have hH : Hp D (Ec kA ly) ly n A s.heap S s.heap [] := ⟨hP, hD, va_S.rf⟩
  have hiX7 : ∀ w ∈ u_ws RX7 TX7 3, w ∈ wsX8_moves := by decide +kernel
  have lk0 := hts (.fieldLink RX8 16 "SlowPanes$Thing" "trace" "LSlowPanes$Trace;") (by decide +kernel)
  have hl := lv_entry ([.ref (ly o), .int a1]) (n := 2) (Nat.le_of_ble_eq_true rfl)
  rw [lg_entry_eq]
  generalize (lg_sl ([.ref (ly o), .int a1]) ++ List.replicate (2 - (lg_sl ([.ref (ly o), .int a1])).length) Slot.unset).toArray = ls at hl ⊢
  have hl : lv_has ls 2 [(0, .ref (ly o)), (1, .int a1)] := hl
  rw [wp_X8_moves_c7] at hw
  obtain ⟨ho, hw⟩ := hw
  refine lv_aload_n hx hb dX8_moves_0 rfl (lv_at hl 0 rfl) ?_
  refine k_get (ci := 7) (C := RX7) (T := TX7) (N := 3) hx hb hts hiX7 hown hK hH ho.2.1 (Ec_th ho) rfl 2 (by decide) lk0 (fun _ h => h) rfl dX8_moves_1 ?_
  refine lv_bipush (v := 11) hx hb dX8_moves_4 (by decide +kernel) ?_
  refine k_aftv (va_runV (As := [.int (11 : Int32)]) (rest := []) ⟨hx, hb, hml, hown, hts⟩ (c_X9_begin l D kA ly n hn A (11 : Int32) S _) (cwV 1 hts gX8_moves_X9_begin rfl rfl rfl (by decide +kernel) ⟨(Nat.le_of_ble_eq_true rfl), (Nat.le_of_ble_eq_true rfl)⟩) ⟨k_blind, (k_recv hK hH (lt_n hn (by decide)) Ec_7 rfl), k_pre hK hN hH hw⟩ rfl rfl hl.1 rfl (lv_room (Nat.le_of_ble_eq_true rfl)) dX8_moves_6 ⟨Nat.le_refl _, Nat.le_refl _⟩) hH (fun S1 H locs hw hH => ?_)
  refine lv_aload_n hx hb dX8_moves_9 rfl (lv_at hl 0 rfl) ?_
  refine lv_iload_n hx hb dX8_moves_10 rfl (lv_at hl 1 rfl) ?_
  obtain ⟨hs2, hw⟩ := hw
  refine k_afti (va_runU (As := [.int a1]) (rest := []) ⟨hx, hb, hml, hown, hts0⟩ (c_X8_shows_c7 l D kA ly n hn A o a1 S1 _) (va_cwU 1 hts0 (good_pre gX8_moves_X8_shows_u26X7 (fun w h => wz_in (List.mem_append_right _ (List.mem_append_right _ (List.mem_append_right _ (List.mem_append_right _ (List.mem_append_right _ (List.mem_append_right _ (List.mem_append_right _ (List.mem_append_right _ (List.mem_append_right _ (List.mem_append_right _ (List.mem_append_left _ h)))))))))))) (wz_goodIn (fun w h => List.mem_cons_of_mem _ h) (List.mem_append_right _ (List.mem_append_right _ (List.mem_append_right _ (List.mem_append_right _ (List.mem_append_right _ (List.mem_append_right _ (List.mem_append_right _ (List.mem_append_right _ (List.mem_append_right _ (List.mem_append_left _ List.mem_cons_self)))))))))))) rfl rfl rfl rfl (by decide +kernel) ⟨(Nat.le_of_ble_eq_true rfl), (Nat.le_of_ble_eq_true rfl)⟩) ⟨k_blind, (k_recv hK hH hs2.2.1 (Ec_th hs2) rfl), k_pre hK hN hH hw⟩ rfl rfl hl.1 rfl (lv_room (Nat.le_of_ble_eq_true rfl)) dX8_moves_11 ⟨Nat.le_refl _, Nat.le_refl _⟩) hH (fun r4 S3 H locs hw hH => ?_)
  refine lv_iconst (v := 2) hx hb dX8_moves_14 (by decide +kernel) ?_
  refine lv_imul hx hb dX8_moves_15 ?_
  exact k_iret hx hb hr hlocks hK hN hH hw dX8_moves_16
def wp_X7_moves_c7 (n : List Nat) (o : Nat) (a1 : Int32) (S : St) (Q : Int32 → St → Prop) : Prop := (isTh n S 7 o ∧ wp_X9_begin (20 : Int32) S (fun S1 => (isTh n S1 7 o ∧ wp_X8_moves_c7 n o a1 S1 (fun r4 S3 => (isTh n S3 7 o ∧ Q (r4 - (gI S3 o 1)) S3)))))
set_option maxHeartbeats 4000000 in
set_option maxRecDepth 100000 in
theorem c_X7_moves_c7 (l : Launch) (D : va_G) (kA : Nat → ClassId) (ly : Nat → Nat) (n : List Nat) (hn : ∀ c, c < 59 → c ∈ n) (A : Nat → Prop) (o : Nat) (a1 : Int32) : Ci l yX7_moves (wz yX7_moves cX7_moves 2 (some .int)) 3 63 (Gp D (Ec kA ly) ly n A kA) A [.ref (ly o), .int a1] (wp_X7_moves_c7 n o a1) := by
  intro S Q
  refine Met.ofW (cc := cX7_moves) (maxL := 2) (ret := (some .int)) (by decide) rfl ?_
  intro p e s m args below meth c s₁ B hml hv
  obtain ⟨rfl, ⟨hP, hD, hK, hN⟩, hw⟩ := hv
  have hx := B.exec
  have hb := B.bytes
  have hr := B.returns
  have hts0 := atoms_spec (ws := (wz yX7_moves cX7_moves 2 (some .int))) B.pre
  have hts : ∀ w ∈ wsX7_moves, w.before _ s = true := fun w h => hts0 w (wz_in (List.mem_append_right _ (List.mem_append_right _ (List.mem_append_right _ (List.mem_append_right _ (List.mem_append_right _ (List.mem_append_right _ (List.mem_append_right _ (List.mem_append_right _ (List.mem_append_left _ h))))))))))
  have hown : s.vm.findClass RX7 = some m.cls := findClass_of_methodNamed B.named
  have hlocks := B.notSynchronized
  have hH : Hp D (Ec kA ly) ly n A s.heap S s.heap [] := ⟨hP, hD, va_S.rf⟩
  have hiX7 : ∀ w ∈ u_ws RX7 TX7 3, w ∈ wsX7_moves := by decide +kernel
  have lk0 := hts (.fieldLink RX7 7 "SlowPanes$ThickThing" "trace" "LSlowPanes$Trace;") (by decide +kernel)
  have lk1 := hts (.sameField "SlowPanes$ThickThing" "SlowPanes$Thing" "trace" "LSlowPanes$Trace;") (by decide +kernel)
  have lk2 := hts (.fieldLink RX7 23 "SlowPanes$ThickThing" "a" "I") (by decide +kernel)
  have lk3 := hts (.sameField "SlowPanes$ThickThing" "SlowPanes$Thing" "a" "I") (by decide +kernel)
  have hl := lv_entry ([.ref (ly o), .int a1]) (n := 2) (Nat.le_of_ble_eq_true rfl)
  rw [lg_entry_eq]
  generalize (lg_sl ([.ref (ly o), .int a1]) ++ List.replicate (2 - (lg_sl ([.ref (ly o), .int a1])).length) Slot.unset).toArray = ls at hl ⊢
  have hl : lv_has ls 2 [(0, .ref (ly o)), (1, .int a1)] := hl
  rw [wp_X7_moves_c7] at hw
  obtain ⟨ho, hw⟩ := hw
  refine lv_aload_n hx hb dX7_moves_0 rfl (lv_at hl 0 rfl) ?_
  refine k_get (ci := 7) (C := RX7) (T := TX7) (N := 3) hx hb hts hiX7 hown hK hH ho.2.1 (Ec_th ho) rfl 2 (by decide) lk0 (fun x h => u_same lk1 x h) rfl dX7_moves_1 ?_
  refine lv_bipush (v := 20) hx hb dX7_moves_4 (by decide +kernel) ?_
  refine k_aftv (va_runV (As := [.int (20 : Int32)]) (rest := []) ⟨hx, hb, hml, hown, hts⟩ (c_X9_begin l D kA ly n hn A (20 : Int32) S _) (cwV 1 hts gX7_moves_X9_begin rfl rfl rfl (by decide +kernel) ⟨(Nat.le_of_ble_eq_true rfl), (Nat.le_of_ble_eq_true rfl)⟩) ⟨k_blind, (k_recv hK hH (lt_n hn (by decide)) Ec_7 rfl), k_pre hK hN hH hw⟩ rfl rfl hl.1 rfl (lv_room (Nat.le_of_ble_eq_true rfl)) dX7_moves_6 ⟨Nat.le_refl _, Nat.le_refl _⟩) hH (fun S1 H locs hw hH => ?_)
  refine lv_aload_n hx hb dX7_moves_9 rfl (lv_at hl 0 rfl) ?_
  refine lv_iload_n hx hb dX7_moves_10 rfl (lv_at hl 1 rfl) ?_
  obtain ⟨hs2, hw⟩ := hw
  refine k_afti (va_runSU (As := [.int a1]) (rest := []) (hK.1 7 _ rfl).2 ⟨hx, hb, hml, hown, hts0⟩ (c_X8_moves_c7 l D kA ly n hn A o a1 S1 _) (va_cwSU 1 hts0 (good_pre gX7_moves_X8_moves_s19 (fun w h => wz_in (List.mem_append_right _ (List.mem_append_right _ (List.mem_append_right _ (List.mem_append_right _ (List.mem_append_right _ (List.mem_append_right _ (List.mem_append_right _ (List.mem_append_right _ (List.mem_append_left _ h)))))))))) (wz_goodIn (fun w h => List.mem_cons_of_mem _ h) (List.mem_append_right _ (List.mem_append_right _ (List.mem_append_right _ (List.mem_append_right _ (List.mem_append_right _ (List.mem_append_right _ (List.mem_append_right _ (List.mem_append_right _ (List.mem_append_right _ (List.mem_append_right _ (List.mem_append_left _ List.mem_cons_self))))))))))))) rfl rfl rfl (by decide +kernel) ⟨(Nat.le_of_ble_eq_true rfl), (Nat.le_of_ble_eq_true rfl)⟩) ⟨k_blind, (k_recv hK hH hs2.2.1 (Ec_th hs2) rfl), k_pre hK hN hH hw⟩ rfl rfl hl.1 rfl (lv_room (Nat.le_of_ble_eq_true rfl)) dX7_moves_11 ⟨Nat.le_refl _, Nat.le_refl _⟩) hH (fun r4 S3 H locs hw hH => ?_)
  refine lv_aload_n hx hb dX7_moves_14 rfl (lv_at hl 0 rfl) ?_
  obtain ⟨hs5, hw⟩ := hw
  refine k_get (ci := 7) (C := RX7) (T := TX7) (N := 3) hx hb hts hiX7 hown hK hH hs5.2.1 (Ec_th hs5) rfl 1 (by decide) lk2 (fun x h => u_same lk3 x h) rfl dX7_moves_15 ?_
  refine lv_isub hx hb dX7_moves_18 ?_
  exact k_iret hx hb hr hlocks hK hN hH hw dX7_moves_19
def wp_X8_shares_c7 (n : List Nat) (o : Nat) (a1 : Int32) (S : St) (Q : Int32 → St → Prop) : Prop := (isTh n S 7 o ∧ wp_X9_begin (12 : Int32) S (fun S1 => (isTh n S1 7 o ∧ wp_X9_part a1 ((gI S1 o 1) - (gI S1 o 0)) S1 (fun r4 S3 => Q r4 S3))))
set_option maxHeartbeats 4000000 in
set_option maxRecDepth 100000 in
theorem c_X8_shares_c7 (l : Launch) (D : va_G) (kA : Nat → ClassId) (ly : Nat → Nat) (n : List Nat) (hn : ∀ c, c < 59 → c ∈ n) (A : Nat → Prop) (o : Nat) (a1 : Int32) : Ci l yX8_shares (wz yX8_shares cX8_shares 2 (some .int)) 1 22 (Gp D (Ec kA ly) ly n A kA) A [.ref (ly o), .int a1] (wp_X8_shares_c7 n o a1) := by
  intro S Q
  refine Met.ofW (cc := cX8_shares) (maxL := 2) (ret := (some .int)) (by decide) rfl ?_
  intro p e s m args below meth c s₁ B hml hv
  obtain ⟨rfl, ⟨hP, hD, hK, hN⟩, hw⟩ := hv
  have hx := B.exec
  have hb := B.bytes
  have hr := B.returns
  have hts0 := atoms_spec (ws := (wz yX8_shares cX8_shares 2 (some .int))) B.pre
  have hts : ∀ w ∈ wsX8_shares, w.before _ s = true := fun w h => hts0 w (wz_in (List.mem_append_right _ (List.mem_append_right _ (List.mem_append_right _ (List.mem_append_right _ (List.mem_append_right _ (List.mem_append_right _ (List.mem_append_right _ (List.mem_append_right _ (List.mem_append_right _ (List.mem_append_right _ (List.mem_append_right _ (List.mem_append_left _ h)))))))))))))
  have hown : s.vm.findClass RX8 = some m.cls := findClass_of_methodNamed B.named
  have hlocks := B.notSynchronized
  have hH : Hp D (Ec kA ly) ly n A s.heap S s.heap [] := ⟨hP, hD, va_S.rf⟩
  have hiX7 : ∀ w ∈ u_ws RX7 TX7 3, w ∈ wsX8_shares := by decide +kernel
  have lk0 := hts (.fieldLink RX8 16 "SlowPanes$Thing" "trace" "LSlowPanes$Trace;") (by decide +kernel)
  have lk1 := hts (.fieldLink RX8 13 "SlowPanes$Thing" "a" "I") (by decide +kernel)
  have lk2 := hts (.fieldLink RX8 7 "SlowPanes$Thing" "n" "I") (by decide +kernel)
  have hl := lv_entry ([.ref (ly o), .int a1]) (n := 2) (Nat.le_of_ble_eq_true rfl)
  rw [lg_entry_eq]
  generalize (lg_sl ([.ref (ly o), .int a1]) ++ List.replicate (2 - (lg_sl ([.ref (ly o), .int a1])).length) Slot.unset).toArray = ls at hl ⊢
  have hl : lv_has ls 2 [(0, .ref (ly o)), (1, .int a1)] := hl
  rw [wp_X8_shares_c7] at hw
  obtain ⟨ho, hw⟩ := hw
  refine lv_aload_n hx hb dX8_shares_0 rfl (lv_at hl 0 rfl) ?_
  refine k_get (ci := 7) (C := RX7) (T := TX7) (N := 3) hx hb hts hiX7 hown hK hH ho.2.1 (Ec_th ho) rfl 2 (by decide) lk0 (fun _ h => h) rfl dX8_shares_1 ?_
  refine lv_bipush (v := 12) hx hb dX8_shares_4 (by decide +kernel) ?_
  refine k_aftv (va_runV (As := [.int (12 : Int32)]) (rest := []) ⟨hx, hb, hml, hown, hts⟩ (c_X9_begin l D kA ly n hn A (12 : Int32) S _) (cwV 1 hts gX8_shares_X9_begin rfl rfl rfl (by decide +kernel) ⟨(Nat.le_of_ble_eq_true rfl), (Nat.le_of_ble_eq_true rfl)⟩) ⟨k_blind, (k_recv hK hH (lt_n hn (by decide)) Ec_7 rfl), k_pre hK hN hH hw⟩ rfl rfl hl.1 rfl (lv_room (Nat.le_of_ble_eq_true rfl)) dX8_shares_6 ⟨Nat.le_refl _, Nat.le_refl _⟩) hH (fun S1 H locs hw hH => ?_)
  refine lv_aload_n hx hb dX8_shares_9 rfl (lv_at hl 0 rfl) ?_
  obtain ⟨hs2, hw⟩ := hw
  refine k_get (ci := 7) (C := RX7) (T := TX7) (N := 3) hx hb hts hiX7 hown hK hH hs2.2.1 (Ec_th hs2) rfl 2 (by decide) lk0 (fun _ h => h) rfl dX8_shares_10 ?_
  refine lv_iload_n hx hb dX8_shares_13 rfl (lv_at hl 1 rfl) ?_
  refine lv_aload_n hx hb dX8_shares_14 rfl (lv_at hl 0 rfl) ?_
  refine k_get (ci := 7) (C := RX7) (T := TX7) (N := 3) hx hb hts hiX7 hown hK hH hs2.2.1 (Ec_th hs2) rfl 1 (by decide) lk1 (fun _ h => h) rfl dX8_shares_15 ?_
  refine lv_aload_n hx hb dX8_shares_18 rfl (lv_at hl 0 rfl) ?_
  refine k_get (ci := 7) (C := RX7) (T := TX7) (N := 3) hx hb hts hiX7 hown hK hH hs2.2.1 (Ec_th hs2) rfl 0 (by decide) lk2 (fun _ h => h) rfl dX8_shares_19 ?_
  refine lv_isub hx hb dX8_shares_22 ?_
  refine k_afti (va_runV (As := [.int a1, .int ((gI S1 o 1) - (gI S1 o 0))]) (rest := []) ⟨hx, hb, hml, hown, hts⟩ (c_X9_part l D kA ly n hn A a1 ((gI S1 o 1) - (gI S1 o 0)) S1 _) (cwV 2 hts gX8_shares_X9_part rfl rfl rfl (by decide +kernel) ⟨(Nat.le_of_ble_eq_true rfl), (Nat.le_of_ble_eq_true rfl)⟩) ⟨k_blind, (k_recv hK hH (lt_n hn (by decide)) Ec_7 rfl), k_pre hK hN hH hw⟩ rfl rfl hl.1 rfl (lv_room (Nat.le_of_ble_eq_true rfl)) dX8_shares_23 ⟨Nat.le_refl _, Nat.le_refl _⟩) hH (fun r4 S3 H locs hw hH => ?_)
  exact k_iret hx hb hr hlocks hK hN hH hw dX8_shares_26
def wp_X8_tells_c7 (n : List Nat) (o : Nat) (a1 : Int32) (S : St) (Q : Int32 → St → Prop) : Prop := (isTh n S 7 o ∧ wp_X9_begin (13 : Int32) S (fun S1 => (isTh n S1 7 o ∧ wp_X7_moves_c7 n o a1 S1 (fun r4 S3 => (isTh n S3 7 o ∧ Q (r4 ^^^ (gI S3 o 1)) S3)))))
set_option maxHeartbeats 4000000 in
set_option maxRecDepth 100000 in
theorem c_X8_tells_c7 (l : Launch) (D : va_G) (kA : Nat → ClassId) (ly : Nat → Nat) (n : List Nat) (hn : ∀ c, c < 59 → c ∈ n) (A : Nat → Prop) (o : Nat) (a1 : Int32) : Ci l yX8_tells (wz yX8_tells cX8_tells 2 (some .int)) 4 84 (Gp D (Ec kA ly) ly n A kA) A [.ref (ly o), .int a1] (wp_X8_tells_c7 n o a1) := by
  intro S Q
  refine Met.ofW (cc := cX8_tells) (maxL := 2) (ret := (some .int)) (by decide) rfl ?_
  intro p e s m args below meth c s₁ B hml hv
  obtain ⟨rfl, ⟨hP, hD, hK, hN⟩, hw⟩ := hv
  have hx := B.exec
  have hb := B.bytes
  have hr := B.returns
  have hts0 := atoms_spec (ws := (wz yX8_tells cX8_tells 2 (some .int))) B.pre
  have hts : ∀ w ∈ wsX8_tells, w.before _ s = true := fun w h => hts0 w (wz_in (List.mem_append_right _ (List.mem_append_right _ (List.mem_append_right _ (List.mem_append_right _ (List.mem_append_right _ (List.mem_append_right _ (List.mem_append_right _ (List.mem_append_right _ (List.mem_append_right _ (List.mem_append_right _ (List.mem_append_right _ (List.mem_append_right _ (List.mem_append_left _ h))))))))))))))
  have hown : s.vm.findClass RX8 = some m.cls := findClass_of_methodNamed B.named
  have hlocks := B.notSynchronized
  have hH : Hp D (Ec kA ly) ly n A s.heap S s.heap [] := ⟨hP, hD, va_S.rf⟩
  have hiX7 : ∀ w ∈ u_ws RX7 TX7 3, w ∈ wsX8_tells := by decide +kernel
  have lk0 := hts (.fieldLink RX8 16 "SlowPanes$Thing" "trace" "LSlowPanes$Trace;") (by decide +kernel)
  have lk1 := hts (.fieldLink RX8 13 "SlowPanes$Thing" "a" "I") (by decide +kernel)
  have hl := lv_entry ([.ref (ly o), .int a1]) (n := 2) (Nat.le_of_ble_eq_true rfl)
  rw [lg_entry_eq]
  generalize (lg_sl ([.ref (ly o), .int a1]) ++ List.replicate (2 - (lg_sl ([.ref (ly o), .int a1])).length) Slot.unset).toArray = ls at hl ⊢
  have hl : lv_has ls 2 [(0, .ref (ly o)), (1, .int a1)] := hl
  rw [wp_X8_tells_c7] at hw
  obtain ⟨ho, hw⟩ := hw
  refine lv_aload_n hx hb dX8_tells_0 rfl (lv_at hl 0 rfl) ?_
  refine k_get (ci := 7) (C := RX7) (T := TX7) (N := 3) hx hb hts hiX7 hown hK hH ho.2.1 (Ec_th ho) rfl 2 (by decide) lk0 (fun _ h => h) rfl dX8_tells_1 ?_
  refine lv_bipush (v := 13) hx hb dX8_tells_4 (by decide +kernel) ?_
  refine k_aftv (va_runV (As := [.int (13 : Int32)]) (rest := []) ⟨hx, hb, hml, hown, hts⟩ (c_X9_begin l D kA ly n hn A (13 : Int32) S _) (cwV 1 hts gX8_tells_X9_begin rfl rfl rfl (by decide +kernel) ⟨(Nat.le_of_ble_eq_true rfl), (Nat.le_of_ble_eq_true rfl)⟩) ⟨k_blind, (k_recv hK hH (lt_n hn (by decide)) Ec_7 rfl), k_pre hK hN hH hw⟩ rfl rfl hl.1 rfl (lv_room (Nat.le_of_ble_eq_true rfl)) dX8_tells_6 ⟨Nat.le_refl _, Nat.le_refl _⟩) hH (fun S1 H locs hw hH => ?_)
  refine lv_aload_n hx hb dX8_tells_9 rfl (lv_at hl 0 rfl) ?_
  refine lv_iload_n hx hb dX8_tells_10 rfl (lv_at hl 1 rfl) ?_
  obtain ⟨hs2, hw⟩ := hw
  refine k_afti (va_runU (As := [.int a1]) (rest := []) ⟨hx, hb, hml, hown, hts0⟩ (c_X7_moves_c7 l D kA ly n hn A o a1 S1 _) (va_cwO 1 hts0 (good_pre gX8_tells_X7_moves_u34X7 (fun w h => wz_in (List.mem_append_right _ (List.mem_append_right _ (List.mem_append_right _ (List.mem_append_right _ (List.mem_append_right _ (List.mem_append_right _ (List.mem_append_right _ (List.mem_append_right _ (List.mem_append_right _ (List.mem_append_right _ (List.mem_append_right _ (List.mem_append_right _ (List.mem_append_left _ h)))))))))))))) (wz_goodIn (fun w h => List.mem_cons_of_mem _ h) (List.mem_append_right _ (List.mem_append_right _ (List.mem_append_right _ (List.mem_append_right _ (List.mem_append_right _ (List.mem_append_right _ (List.mem_append_right _ (List.mem_append_right _ (List.mem_append_left _ List.mem_cons_self))))))))))) rfl rfl rfl (show Cond.code yX8_moves cX8_moves 2 (some .int) ∈ _ from (wz_in (List.mem_append_right _ (List.mem_append_right _ (List.mem_append_right _ (List.mem_append_right _ (List.mem_append_right _ (List.mem_append_right _ (List.mem_append_right _ (List.mem_append_right _ (List.mem_append_right _ (List.mem_append_right _ (List.mem_append_left _ List.mem_cons_self))))))))))))) (by decide +kernel) ⟨(Nat.le_of_ble_eq_true rfl), (Nat.le_of_ble_eq_true rfl)⟩) ⟨k_blind, (k_recv hK hH hs2.2.1 (Ec_th hs2) rfl), k_pre hK hN hH hw⟩ rfl rfl hl.1 rfl (lv_room (Nat.le_of_ble_eq_true rfl)) dX8_tells_11 ⟨Nat.le_refl _, Nat.le_refl _⟩) hH (fun r4 S3 H locs hw hH => ?_)
  refine lv_aload_n hx hb dX8_tells_14 rfl (lv_at hl 0 rfl) ?_
  obtain ⟨hs5, hw⟩ := hw
  refine k_get (ci := 7) (C := RX7) (T := TX7) (N := 3) hx hb hts hiX7 hown hK hH hs5.2.1 (Ec_th hs5) rfl 1 (by decide) lk1 (fun _ h => h) rfl dX8_tells_15 ?_
  refine lv_ixor hx hb dX8_tells_18 ?_
  exact k_iret hx hb hr hlocks hK hN hH hw dX8_tells_19
def wp_X8_shows_c1 (n : List Nat) (o : Nat) (a1 : Int32) (S : St) (Q : Int32 → St → Prop) : Prop := (isTh n S 1 o ∧ wp_X9_begin (10 : Int32) S (fun S1 => (isTh n S1 1 o ∧ Q (a1 + (gI S1 o 0)) S1)))
set_option maxHeartbeats 4000000 in
set_option maxRecDepth 100000 in
theorem c_X8_shows_c1 (l : Launch) (D : va_G) (kA : Nat → ClassId) (ly : Nat → Nat) (n : List Nat) (hn : ∀ c, c < 59 → c ∈ n) (A : Nat → Prop) (o : Nat) (a1 : Int32) : Ci l yX8_shows (wz yX8_shows cX8_shows 2 (some .int)) 1 21 (Gp D (Ec kA ly) ly n A kA) A [.ref (ly o), .int a1] (wp_X8_shows_c1 n o a1) := by
  intro S Q
  refine Met.ofW (cc := cX8_shows) (maxL := 2) (ret := (some .int)) (by decide) rfl ?_
  intro p e s m args below meth c s₁ B hml hv
  obtain ⟨rfl, ⟨hP, hD, hK, hN⟩, hw⟩ := hv
  have hx := B.exec
  have hb := B.bytes
  have hr := B.returns
  have hts0 := atoms_spec (ws := (wz yX8_shows cX8_shows 2 (some .int))) B.pre
  have hts : ∀ w ∈ wsX8_shows, w.before _ s = true := fun w h => hts0 w (wz_in (List.mem_append_right _ (List.mem_append_right _ (List.mem_append_right _ (List.mem_append_right _ (List.mem_append_right _ (List.mem_append_right _ (List.mem_append_right _ (List.mem_append_right _ (List.mem_append_right _ (List.mem_append_left _ h)))))))))))
  have hown : s.vm.findClass RX8 = some m.cls := findClass_of_methodNamed B.named
  have hlocks := B.notSynchronized
  have hH : Hp D (Ec kA ly) ly n A s.heap S s.heap [] := ⟨hP, hD, va_S.rf⟩
  have hiX1 : ∀ w ∈ u_ws RX1 TX1 3, w ∈ wsX8_shows := by decide +kernel
  have lk0 := hts (.fieldLink RX8 16 "SlowPanes$Thing" "trace" "LSlowPanes$Trace;") (by decide +kernel)
  have lk1 := hts (.fieldLink RX8 7 "SlowPanes$Thing" "n" "I") (by decide +kernel)
  have hl := lv_entry ([.ref (ly o), .int a1]) (n := 2) (Nat.le_of_ble_eq_true rfl)
  rw [lg_entry_eq]
  generalize (lg_sl ([.ref (ly o), .int a1]) ++ List.replicate (2 - (lg_sl ([.ref (ly o), .int a1])).length) Slot.unset).toArray = ls at hl ⊢
  have hl : lv_has ls 2 [(0, .ref (ly o)), (1, .int a1)] := hl
  rw [wp_X8_shows_c1] at hw
  obtain ⟨ho, hw⟩ := hw
  refine lv_aload_n hx hb dX8_shows_0 rfl (lv_at hl 0 rfl) ?_
  refine k_get (ci := 1) (C := RX1) (T := TX1) (N := 3) hx hb hts hiX1 hown hK hH ho.2.1 (Ec_th ho) rfl 2 (by decide) lk0 (fun _ h => h) rfl dX8_shows_1 ?_
  refine lv_bipush (v := 10) hx hb dX8_shows_4 (by decide +kernel) ?_
  refine k_aftv (va_runV (As := [.int (10 : Int32)]) (rest := []) ⟨hx, hb, hml, hown, hts⟩ (c_X9_begin l D kA ly n hn A (10 : Int32) S _) (cwV 1 hts gX8_shows_X9_begin rfl rfl rfl (by decide +kernel) ⟨(Nat.le_of_ble_eq_true rfl), (Nat.le_of_ble_eq_true rfl)⟩) ⟨k_blind, (k_recv hK hH (lt_n hn (by decide)) Ec_7 rfl), k_pre hK hN hH hw⟩ rfl rfl hl.1 rfl (lv_room (Nat.le_of_ble_eq_true rfl)) dX8_shows_6 ⟨Nat.le_refl _, Nat.le_refl _⟩) hH (fun S1 H locs hw hH => ?_)
  refine lv_iload_n hx hb dX8_shows_9 rfl (lv_at hl 1 rfl) ?_
  refine lv_aload_n hx hb dX8_shows_10 rfl (lv_at hl 0 rfl) ?_
  obtain ⟨hs2, hw⟩ := hw
  refine k_get (ci := 1) (C := RX1) (T := TX1) (N := 3) hx hb hts hiX1 hown hK hH hs2.2.1 (Ec_th hs2) rfl 0 (by decide) lk1 (fun _ h => h) rfl dX8_shows_11 ?_
  refine lv_iadd hx hb dX8_shows_14 ?_
  exact k_iret hx hb hr hlocks hK hN hH hw dX8_shows_15
def wp_X1_shows_c1 (n : List Nat) (o : Nat) (a1 : Int32) (S : St) (Q : Int32 → St → Prop) : Prop := (isTh n S 1 o ∧ wp_X9_begin (51 : Int32) S (fun S1 => (isTh n S1 1 o ∧ wp_X8_shows_c1 n o a1 S1 (fun r4 S3 => (isTh n S3 1 o ∧ Q (r4 - (gI S3 o 0)) S3)))))
set_option maxHeartbeats 4000000 in
set_option maxRecDepth 100000 in
theorem c_X1_shows_c1 (l : Launch) (D : va_G) (kA : Nat → ClassId) (ly : Nat → Nat) (n : List Nat) (hn : ∀ c, c < 59 → c ∈ n) (A : Nat → Prop) (o : Nat) (a1 : Int32) : Ci l yX1_shows (wz yX1_shows cX1_shows 2 (some .int)) 2 42 (Gp D (Ec kA ly) ly n A kA) A [.ref (ly o), .int a1] (wp_X1_shows_c1 n o a1) := by
  intro S Q
  refine Met.ofW (cc := cX1_shows) (maxL := 2) (ret := (some .int)) (by decide) rfl ?_
  intro p e s m args below meth c s₁ B hml hv
  obtain ⟨rfl, ⟨hP, hD, hK, hN⟩, hw⟩ := hv
  have hx := B.exec
  have hb := B.bytes
  have hr := B.returns
  have hts0 := atoms_spec (ws := (wz yX1_shows cX1_shows 2 (some .int))) B.pre
  have hts : ∀ w ∈ wsX1_shows, w.before _ s = true := fun w h => hts0 w (wz_in (List.mem_append_right _ (List.mem_append_right _ (List.mem_append_right _ (List.mem_append_left _ h)))))
  have hown : s.vm.findClass RX1 = some m.cls := findClass_of_methodNamed B.named
  have hlocks := B.notSynchronized
  have hH : Hp D (Ec kA ly) ly n A s.heap S s.heap [] := ⟨hP, hD, va_S.rf⟩
  have hiX1 : ∀ w ∈ u_ws RX1 TX1 3, w ∈ wsX1_shows := by decide +kernel
  have lk0 := hts (.fieldLink RX1 7 "SlowPanes$DoubleThing" "trace" "LSlowPanes$Trace;") (by decide +kernel)
  have lk1 := hts (.sameField "SlowPanes$DoubleThing" "SlowPanes$Thing" "trace" "LSlowPanes$Trace;") (by decide +kernel)
  have lk2 := hts (.fieldLink RX1 26 "SlowPanes$DoubleThing" "n" "I") (by decide +kernel)
  have lk3 := hts (.sameField "SlowPanes$DoubleThing" "SlowPanes$Thing" "n" "I") (by decide +kernel)
  have hl := lv_entry ([.ref (ly o), .int a1]) (n := 2) (Nat.le_of_ble_eq_true rfl)
  rw [lg_entry_eq]
  generalize (lg_sl ([.ref (ly o), .int a1]) ++ List.replicate (2 - (lg_sl ([.ref (ly o), .int a1])).length) Slot.unset).toArray = ls at hl ⊢
  have hl : lv_has ls 2 [(0, .ref (ly o)), (1, .int a1)] := hl
  rw [wp_X1_shows_c1] at hw
  obtain ⟨ho, hw⟩ := hw
  refine lv_aload_n hx hb dX1_shows_0 rfl (lv_at hl 0 rfl) ?_
  refine k_get (ci := 1) (C := RX1) (T := TX1) (N := 3) hx hb hts hiX1 hown hK hH ho.2.1 (Ec_th ho) rfl 2 (by decide) lk0 (fun x h => u_same lk1 x h) rfl dX1_shows_1 ?_
  refine lv_bipush (v := 51) hx hb dX1_shows_4 (by decide +kernel) ?_
  refine k_aftv (va_runV (As := [.int (51 : Int32)]) (rest := []) ⟨hx, hb, hml, hown, hts⟩ (c_X9_begin l D kA ly n hn A (51 : Int32) S _) (cwV 1 hts gX1_shows_X9_begin rfl rfl rfl (by decide +kernel) ⟨(Nat.le_of_ble_eq_true rfl), (Nat.le_of_ble_eq_true rfl)⟩) ⟨k_blind, (k_recv hK hH (lt_n hn (by decide)) Ec_7 rfl), k_pre hK hN hH hw⟩ rfl rfl hl.1 rfl (lv_room (Nat.le_of_ble_eq_true rfl)) dX1_shows_6 ⟨Nat.le_refl _, Nat.le_refl _⟩) hH (fun S1 H locs hw hH => ?_)
  refine lv_aload_n hx hb dX1_shows_9 rfl (lv_at hl 0 rfl) ?_
  refine lv_iload_n hx hb dX1_shows_10 rfl (lv_at hl 1 rfl) ?_
  obtain ⟨hs2, hw⟩ := hw
  refine k_afti (runSX (n := 1) (x := ⟨RX7, "shows", "(I)I"⟩) (As := [.int a1]) (rest := []) (hK.1 1 _ rfl).2 ⟨hx, hb, hml, hown, hts0⟩ (c_X8_shows_c1 l D kA ly n hn A o a1 S1 _) rfl (wz_goodIn (fun w h => List.mem_cons_of_mem _ h) (List.mem_append_right _ (List.mem_append_right _ (List.mem_append_right _ (List.mem_append_right _ (List.mem_append_right _ (List.mem_append_right _ (List.mem_append_right _ (List.mem_append_right _ (List.mem_append_right _ (List.mem_append_left _ List.mem_cons_self))))))))))) rfl rfl ⟨(Nat.le_of_ble_eq_true rfl), (Nat.le_of_ble_eq_true rfl)⟩ (hts0 (.methodLink RX1 23 ⟨RX7, "shows", "(I)I"⟩) (wz_inE (by decide +kernel))) (hts0 (.sameMethod RX7 RX8 "shows" "(I)I") (wz_inE (by decide +kernel))) (hts0 (.superclass RX1 RX7) (wz_inE (by decide +kernel))) (hts0 (.superclass RX7 RX8) (wz_inE (by decide +kernel))) (hts0 (.instanceMethod yX8_shows) (wz_inE (by decide +kernel))) (hts0 (.initialized RX8) (wz_inE (by decide +kernel))) rfl (by decide +kernel) ⟨k_blind, (k_recv hK hH hs2.2.1 (Ec_th hs2) rfl), k_pre hK hN hH hw⟩ rfl rfl hl.1 rfl (lv_room (Nat.le_of_ble_eq_true rfl)) dX1_shows_11 ⟨Nat.le_refl _, Nat.le_refl _⟩) hH (fun r4 S3 H locs hw hH => ?_)
  refine lv_aload_n hx hb dX1_shows_14 rfl (lv_at hl 0 rfl) ?_
  obtain ⟨hs5, hw⟩ := hw
  refine k_get (ci := 1) (C := RX1) (T := TX1) (N := 3) hx hb hts hiX1 hown hK hH hs5.2.1 (Ec_th hs5) rfl 0 (by decide) lk2 (fun x h => u_same lk3 x h) rfl dX1_shows_15 ?_
  refine lv_isub hx hb dX1_shows_18 ?_
  exact k_iret hx hb hr hlocks hK hN hH hw dX1_shows_19
def wp_X8_moves_c1 (n : List Nat) (o : Nat) (a1 : Int32) (S : St) (Q : Int32 → St → Prop) : Prop := (isTh n S 1 o ∧ wp_X9_begin (11 : Int32) S (fun S1 => (isTh n S1 1 o ∧ wp_X1_shows_c1 n o a1 S1 (fun r4 S3 => Q (r4 * (2 : Int32)) S3))))
set_option maxHeartbeats 4000000 in
set_option maxRecDepth 100000 in
theorem c_X8_moves_c1 (l : Launch) (D : va_G) (kA : Nat → ClassId) (ly : Nat → Nat) (n : List Nat) (hn : ∀ c, c < 59 → c ∈ n) (A : Nat → Prop) (o : Nat) (a1 : Int32) : Ci l yX8_moves (wz yX8_moves cX8_moves 2 (some .int)) 3 63 (Gp D (Ec kA ly) ly n A kA) A [.ref (ly o), .int a1] (wp_X8_moves_c1 n o a1) := by
  intro S Q
  refine Met.ofW (cc := cX8_moves) (maxL := 2) (ret := (some .int)) (by decide) rfl ?_
  intro p e s m args below meth c s₁ B hml hv
  obtain ⟨rfl, ⟨hP, hD, hK, hN⟩, hw⟩ := hv
  have hx := B.exec
  have hb := B.bytes
  have hr := B.returns
  have hts0 := atoms_spec (ws := (wz yX8_moves cX8_moves 2 (some .int))) B.pre
  have hts : ∀ w ∈ wsX8_moves, w.before _ s = true := fun w h => hts0 w (wz_in (List.mem_append_right _ (List.mem_append_right _ (List.mem_append_right _ (List.mem_append_right _ (List.mem_append_right _ (List.mem_append_right _ (List.mem_append_right _ (List.mem_append_right _ (List.mem_append_right _ (List.mem_append_right _ (List.mem_append_left _ h))))))))))))
  have hown : s.vm.findClass RX8 = some m.cls := findClass_of_methodNamed B.named
  have hlocks := B.notSynchronized
  have hH : Hp D (Ec kA ly) ly n A s.heap S s.heap [] := ⟨hP, hD, va_S.rf⟩
  have hiX1 : ∀ w ∈ u_ws RX1 TX1 3, w ∈ wsX8_moves := by decide +kernel
  have lk0 := hts (.fieldLink RX8 16 "SlowPanes$Thing" "trace" "LSlowPanes$Trace;") (by decide +kernel)
  have hl := lv_entry ([.ref (ly o), .int a1]) (n := 2) (Nat.le_of_ble_eq_true rfl)
  rw [lg_entry_eq]
  generalize (lg_sl ([.ref (ly o), .int a1]) ++ List.replicate (2 - (lg_sl ([.ref (ly o), .int a1])).length) Slot.unset).toArray = ls at hl ⊢
  have hl : lv_has ls 2 [(0, .ref (ly o)), (1, .int a1)] := hl
  rw [wp_X8_moves_c1] at hw
  obtain ⟨ho, hw⟩ := hw
  refine lv_aload_n hx hb dX8_moves_0 rfl (lv_at hl 0 rfl) ?_
  refine k_get (ci := 1) (C := RX1) (T := TX1) (N := 3) hx hb hts hiX1 hown hK hH ho.2.1 (Ec_th ho) rfl 2 (by decide) lk0 (fun _ h => h) rfl dX8_moves_1 ?_
  refine lv_bipush (v := 11) hx hb dX8_moves_4 (by decide +kernel) ?_
  refine k_aftv (va_runV (As := [.int (11 : Int32)]) (rest := []) ⟨hx, hb, hml, hown, hts⟩ (c_X9_begin l D kA ly n hn A (11 : Int32) S _) (cwV 1 hts gX8_moves_X9_begin rfl rfl rfl (by decide +kernel) ⟨(Nat.le_of_ble_eq_true rfl), (Nat.le_of_ble_eq_true rfl)⟩) ⟨k_blind, (k_recv hK hH (lt_n hn (by decide)) Ec_7 rfl), k_pre hK hN hH hw⟩ rfl rfl hl.1 rfl (lv_room (Nat.le_of_ble_eq_true rfl)) dX8_moves_6 ⟨Nat.le_refl _, Nat.le_refl _⟩) hH (fun S1 H locs hw hH => ?_)
  refine lv_aload_n hx hb dX8_moves_9 rfl (lv_at hl 0 rfl) ?_
  refine lv_iload_n hx hb dX8_moves_10 rfl (lv_at hl 1 rfl) ?_
  obtain ⟨hs2, hw⟩ := hw
  refine k_afti (va_runU (As := [.int a1]) (rest := []) ⟨hx, hb, hml, hown, hts0⟩ (c_X1_shows_c1 l D kA ly n hn A o a1 S1 _) (va_cwO 1 hts0 (good_pre gX8_moves_X1_shows_u26X1 (fun w h => wz_in (List.mem_append_right _ (List.mem_append_right _ (List.mem_append_right _ (List.mem_append_right _ (List.mem_append_right _ (List.mem_append_right _ (List.mem_append_right _ (List.mem_append_right _ (List.mem_append_right _ (List.mem_append_right _ (List.mem_append_left _ h)))))))))))) (wz_goodIn (fun w h => List.mem_cons_of_mem _ h) (List.mem_append_right _ (List.mem_append_right _ (List.mem_append_right _ (List.mem_append_left _ List.mem_cons_self)))))) rfl rfl rfl (show Cond.code yX8_shows cX8_shows 2 (some .int) ∈ _ from (wz_in (List.mem_append_right _ (List.mem_append_right _ (List.mem_append_right _ (List.mem_append_right _ (List.mem_append_right _ (List.mem_append_right _ (List.mem_append_right _ (List.mem_append_right _ (List.mem_append_right _ (List.mem_append_left _ List.mem_cons_self)))))))))))) (by decide +kernel) ⟨(Nat.le_of_ble_eq_true rfl), (Nat.le_of_ble_eq_true rfl)⟩) ⟨k_blind, (k_recv hK hH hs2.2.1 (Ec_th hs2) rfl), k_pre hK hN hH hw⟩ rfl rfl hl.1 rfl (lv_room (Nat.le_of_ble_eq_true rfl)) dX8_moves_11 ⟨Nat.le_refl _, Nat.le_refl _⟩) hH (fun r4 S3 H locs hw hH => ?_)
  refine lv_iconst (v := 2) hx hb dX8_moves_14 (by decide +kernel) ?_
  refine lv_imul hx hb dX8_moves_15 ?_
  exact k_iret hx hb hr hlocks hK hN hH hw dX8_moves_16
def wp_X7_moves_c1 (n : List Nat) (o : Nat) (a1 : Int32) (S : St) (Q : Int32 → St → Prop) : Prop := (isTh n S 1 o ∧ wp_X9_begin (20 : Int32) S (fun S1 => (isTh n S1 1 o ∧ wp_X8_moves_c1 n o a1 S1 (fun r4 S3 => (isTh n S3 1 o ∧ Q (r4 - (gI S3 o 1)) S3)))))
set_option maxHeartbeats 4000000 in
set_option maxRecDepth 100000 in
theorem c_X7_moves_c1 (l : Launch) (D : va_G) (kA : Nat → ClassId) (ly : Nat → Nat) (n : List Nat) (hn : ∀ c, c < 59 → c ∈ n) (A : Nat → Prop) (o : Nat) (a1 : Int32) : Ci l yX7_moves (wz yX7_moves cX7_moves 2 (some .int)) 4 84 (Gp D (Ec kA ly) ly n A kA) A [.ref (ly o), .int a1] (wp_X7_moves_c1 n o a1) := by
  intro S Q
  refine Met.ofW (cc := cX7_moves) (maxL := 2) (ret := (some .int)) (by decide) rfl ?_
  intro p e s m args below meth c s₁ B hml hv
  obtain ⟨rfl, ⟨hP, hD, hK, hN⟩, hw⟩ := hv
  have hx := B.exec
  have hb := B.bytes
  have hr := B.returns
  have hts0 := atoms_spec (ws := (wz yX7_moves cX7_moves 2 (some .int))) B.pre
  have hts : ∀ w ∈ wsX7_moves, w.before _ s = true := fun w h => hts0 w (wz_in (List.mem_append_right _ (List.mem_append_right _ (List.mem_append_right _ (List.mem_append_right _ (List.mem_append_right _ (List.mem_append_right _ (List.mem_append_right _ (List.mem_append_right _ (List.mem_append_left _ h))))))))))
  have hown : s.vm.findClass RX7 = some m.cls := findClass_of_methodNamed B.named
  have hlocks := B.notSynchronized
  have hH : Hp D (Ec kA ly) ly n A s.heap S s.heap [] := ⟨hP, hD, va_S.rf⟩
  have hiX1 : ∀ w ∈ u_ws RX1 TX1 3, w ∈ wsX7_moves := by decide +kernel
  have lk0 := hts (.fieldLink RX7 7 "SlowPanes$ThickThing" "trace" "LSlowPanes$Trace;") (by decide +kernel)
  have lk1 := hts (.sameField "SlowPanes$ThickThing" "SlowPanes$Thing" "trace" "LSlowPanes$Trace;") (by decide +kernel)
  have lk2 := hts (.fieldLink RX7 23 "SlowPanes$ThickThing" "a" "I") (by decide +kernel)
  have lk3 := hts (.sameField "SlowPanes$ThickThing" "SlowPanes$Thing" "a" "I") (by decide +kernel)
  have hl := lv_entry ([.ref (ly o), .int a1]) (n := 2) (Nat.le_of_ble_eq_true rfl)
  rw [lg_entry_eq]
  generalize (lg_sl ([.ref (ly o), .int a1]) ++ List.replicate (2 - (lg_sl ([.ref (ly o), .int a1])).length) Slot.unset).toArray = ls at hl ⊢
  have hl : lv_has ls 2 [(0, .ref (ly o)), (1, .int a1)] := hl
  rw [wp_X7_moves_c1] at hw
  obtain ⟨ho, hw⟩ := hw
  refine lv_aload_n hx hb dX7_moves_0 rfl (lv_at hl 0 rfl) ?_
  refine k_get (ci := 1) (C := RX1) (T := TX1) (N := 3) hx hb hts hiX1 hown hK hH ho.2.1 (Ec_th ho) rfl 2 (by decide) lk0 (fun x h => u_same lk1 x h) rfl dX7_moves_1 ?_
  refine lv_bipush (v := 20) hx hb dX7_moves_4 (by decide +kernel) ?_
  refine k_aftv (va_runV (As := [.int (20 : Int32)]) (rest := []) ⟨hx, hb, hml, hown, hts⟩ (c_X9_begin l D kA ly n hn A (20 : Int32) S _) (cwV 1 hts gX7_moves_X9_begin rfl rfl rfl (by decide +kernel) ⟨(Nat.le_of_ble_eq_true rfl), (Nat.le_of_ble_eq_true rfl)⟩) ⟨k_blind, (k_recv hK hH (lt_n hn (by decide)) Ec_7 rfl), k_pre hK hN hH hw⟩ rfl rfl hl.1 rfl (lv_room (Nat.le_of_ble_eq_true rfl)) dX7_moves_6 ⟨Nat.le_refl _, Nat.le_refl _⟩) hH (fun S1 H locs hw hH => ?_)
  refine lv_aload_n hx hb dX7_moves_9 rfl (lv_at hl 0 rfl) ?_
  refine lv_iload_n hx hb dX7_moves_10 rfl (lv_at hl 1 rfl) ?_
  obtain ⟨hs2, hw⟩ := hw
  refine k_afti (va_runSU (As := [.int a1]) (rest := []) (hK.1 1 _ rfl).2 ⟨hx, hb, hml, hown, hts0⟩ (c_X8_moves_c1 l D kA ly n hn A o a1 S1 _) (va_cwSU 1 hts0 (good_pre gX7_moves_X8_moves_s19 (fun w h => wz_in (List.mem_append_right _ (List.mem_append_right _ (List.mem_append_right _ (List.mem_append_right _ (List.mem_append_right _ (List.mem_append_right _ (List.mem_append_right _ (List.mem_append_right _ (List.mem_append_left _ h)))))))))) (wz_goodIn (fun w h => List.mem_cons_of_mem _ h) (List.mem_append_right _ (List.mem_append_right _ (List.mem_append_right _ (List.mem_append_right _ (List.mem_append_right _ (List.mem_append_right _ (List.mem_append_right _ (List.mem_append_right _ (List.mem_append_right _ (List.mem_append_right _ (List.mem_append_left _ List.mem_cons_self))))))))))))) rfl rfl rfl (by decide +kernel) ⟨(Nat.le_of_ble_eq_true rfl), (Nat.le_of_ble_eq_true rfl)⟩) ⟨k_blind, (k_recv hK hH hs2.2.1 (Ec_th hs2) rfl), k_pre hK hN hH hw⟩ rfl rfl hl.1 rfl (lv_room (Nat.le_of_ble_eq_true rfl)) dX7_moves_11 ⟨Nat.le_refl _, Nat.le_refl _⟩) hH (fun r4 S3 H locs hw hH => ?_)
  refine lv_aload_n hx hb dX7_moves_14 rfl (lv_at hl 0 rfl) ?_
  obtain ⟨hs5, hw⟩ := hw
  refine k_get (ci := 1) (C := RX1) (T := TX1) (N := 3) hx hb hts hiX1 hown hK hH hs5.2.1 (Ec_th hs5) rfl 1 (by decide) lk2 (fun x h => u_same lk3 x h) rfl dX7_moves_15 ?_
  refine lv_isub hx hb dX7_moves_18 ?_
  exact k_iret hx hb hr hlocks hK hN hH hw dX7_moves_19
def wp_X8_shares_c1 (n : List Nat) (o : Nat) (a1 : Int32) (S : St) (Q : Int32 → St → Prop) : Prop := (isTh n S 1 o ∧ wp_X9_begin (12 : Int32) S (fun S1 => (isTh n S1 1 o ∧ wp_X9_part a1 ((gI S1 o 1) - (gI S1 o 0)) S1 (fun r4 S3 => Q r4 S3))))
set_option maxHeartbeats 4000000 in
set_option maxRecDepth 100000 in
theorem c_X8_shares_c1 (l : Launch) (D : va_G) (kA : Nat → ClassId) (ly : Nat → Nat) (n : List Nat) (hn : ∀ c, c < 59 → c ∈ n) (A : Nat → Prop) (o : Nat) (a1 : Int32) : Ci l yX8_shares (wz yX8_shares cX8_shares 2 (some .int)) 1 22 (Gp D (Ec kA ly) ly n A kA) A [.ref (ly o), .int a1] (wp_X8_shares_c1 n o a1) := by
  intro S Q
  refine Met.ofW (cc := cX8_shares) (maxL := 2) (ret := (some .int)) (by decide) rfl ?_
  intro p e s m args below meth c s₁ B hml hv
  obtain ⟨rfl, ⟨hP, hD, hK, hN⟩, hw⟩ := hv
  have hx := B.exec
  have hb := B.bytes
  have hr := B.returns
  have hts0 := atoms_spec (ws := (wz yX8_shares cX8_shares 2 (some .int))) B.pre
  have hts : ∀ w ∈ wsX8_shares, w.before _ s = true := fun w h => hts0 w (wz_in (List.mem_append_right _ (List.mem_append_right _ (List.mem_append_right _ (List.mem_append_right _ (List.mem_append_right _ (List.mem_append_right _ (List.mem_append_right _ (List.mem_append_right _ (List.mem_append_right _ (List.mem_append_right _ (List.mem_append_right _ (List.mem_append_left _ h)))))))))))))
  have hown : s.vm.findClass RX8 = some m.cls := findClass_of_methodNamed B.named
  have hlocks := B.notSynchronized
  have hH : Hp D (Ec kA ly) ly n A s.heap S s.heap [] := ⟨hP, hD, va_S.rf⟩
  have hiX1 : ∀ w ∈ u_ws RX1 TX1 3, w ∈ wsX8_shares := by decide +kernel
  have lk0 := hts (.fieldLink RX8 16 "SlowPanes$Thing" "trace" "LSlowPanes$Trace;") (by decide +kernel)
  have lk1 := hts (.fieldLink RX8 13 "SlowPanes$Thing" "a" "I") (by decide +kernel)
  have lk2 := hts (.fieldLink RX8 7 "SlowPanes$Thing" "n" "I") (by decide +kernel)
  have hl := lv_entry ([.ref (ly o), .int a1]) (n := 2) (Nat.le_of_ble_eq_true rfl)
  rw [lg_entry_eq]
  generalize (lg_sl ([.ref (ly o), .int a1]) ++ List.replicate (2 - (lg_sl ([.ref (ly o), .int a1])).length) Slot.unset).toArray = ls at hl ⊢
  have hl : lv_has ls 2 [(0, .ref (ly o)), (1, .int a1)] := hl
  rw [wp_X8_shares_c1] at hw
  obtain ⟨ho, hw⟩ := hw
  refine lv_aload_n hx hb dX8_shares_0 rfl (lv_at hl 0 rfl) ?_
  refine k_get (ci := 1) (C := RX1) (T := TX1) (N := 3) hx hb hts hiX1 hown hK hH ho.2.1 (Ec_th ho) rfl 2 (by decide) lk0 (fun _ h => h) rfl dX8_shares_1 ?_
  refine lv_bipush (v := 12) hx hb dX8_shares_4 (by decide +kernel) ?_
  refine k_aftv (va_runV (As := [.int (12 : Int32)]) (rest := []) ⟨hx, hb, hml, hown, hts⟩ (c_X9_begin l D kA ly n hn A (12 : Int32) S _) (cwV 1 hts gX8_shares_X9_begin rfl rfl rfl (by decide +kernel) ⟨(Nat.le_of_ble_eq_true rfl), (Nat.le_of_ble_eq_true rfl)⟩) ⟨k_blind, (k_recv hK hH (lt_n hn (by decide)) Ec_7 rfl), k_pre hK hN hH hw⟩ rfl rfl hl.1 rfl (lv_room (Nat.le_of_ble_eq_true rfl)) dX8_shares_6 ⟨Nat.le_refl _, Nat.le_refl _⟩) hH (fun S1 H locs hw hH => ?_)
  refine lv_aload_n hx hb dX8_shares_9 rfl (lv_at hl 0 rfl) ?_
  obtain ⟨hs2, hw⟩ := hw
  refine k_get (ci := 1) (C := RX1) (T := TX1) (N := 3) hx hb hts hiX1 hown hK hH hs2.2.1 (Ec_th hs2) rfl 2 (by decide) lk0 (fun _ h => h) rfl dX8_shares_10 ?_
  refine lv_iload_n hx hb dX8_shares_13 rfl (lv_at hl 1 rfl) ?_
  refine lv_aload_n hx hb dX8_shares_14 rfl (lv_at hl 0 rfl) ?_
  refine k_get (ci := 1) (C := RX1) (T := TX1) (N := 3) hx hb hts hiX1 hown hK hH hs2.2.1 (Ec_th hs2) rfl 1 (by decide) lk1 (fun _ h => h) rfl dX8_shares_15 ?_
  refine lv_aload_n hx hb dX8_shares_18 rfl (lv_at hl 0 rfl) ?_
  refine k_get (ci := 1) (C := RX1) (T := TX1) (N := 3) hx hb hts hiX1 hown hK hH hs2.2.1 (Ec_th hs2) rfl 0 (by decide) lk2 (fun _ h => h) rfl dX8_shares_19 ?_
  refine lv_isub hx hb dX8_shares_22 ?_
  refine k_afti (va_runV (As := [.int a1, .int ((gI S1 o 1) - (gI S1 o 0))]) (rest := []) ⟨hx, hb, hml, hown, hts⟩ (c_X9_part l D kA ly n hn A a1 ((gI S1 o 1) - (gI S1 o 0)) S1 _) (cwV 2 hts gX8_shares_X9_part rfl rfl rfl (by decide +kernel) ⟨(Nat.le_of_ble_eq_true rfl), (Nat.le_of_ble_eq_true rfl)⟩) ⟨k_blind, (k_recv hK hH (lt_n hn (by decide)) Ec_7 rfl), k_pre hK hN hH hw⟩ rfl rfl hl.1 rfl (lv_room (Nat.le_of_ble_eq_true rfl)) dX8_shares_23 ⟨Nat.le_refl _, Nat.le_refl _⟩) hH (fun r4 S3 H locs hw hH => ?_)
  exact k_iret hx hb hr hlocks hK hN hH hw dX8_shares_26
def wp_X1_shares_c1 (n : List Nat) (o : Nat) (a1 : Int32) (S : St) (Q : Int32 → St → Prop) : Prop := (isTh n S 1 o ∧ wp_X9_begin (50 : Int32) S (fun S1 => (isTh n S1 1 o ∧ wp_X8_shares_c1 n o (a1 + (2 : Int32)) S1 (fun r4 S3 => Q (r4 ^^^ (1 : Int32)) S3))))
set_option maxHeartbeats 4000000 in
set_option maxRecDepth 100000 in
theorem c_X1_shares_c1 (l : Launch) (D : va_G) (kA : Nat → ClassId) (ly : Nat → Nat) (n : List Nat) (hn : ∀ c, c < 59 → c ∈ n) (A : Nat → Prop) (o : Nat) (a1 : Int32) : Ci l yX1_shares (wz yX1_shares cX1_shares 2 (some .int)) 2 43 (Gp D (Ec kA ly) ly n A kA) A [.ref (ly o), .int a1] (wp_X1_shares_c1 n o a1) := by
  intro S Q
  refine Met.ofW (cc := cX1_shares) (maxL := 2) (ret := (some .int)) (by decide) rfl ?_
  intro p e s m args below meth c s₁ B hml hv
  obtain ⟨rfl, ⟨hP, hD, hK, hN⟩, hw⟩ := hv
  have hx := B.exec
  have hb := B.bytes
  have hr := B.returns
  have hts0 := atoms_spec (ws := (wz yX1_shares cX1_shares 2 (some .int))) B.pre
  have hts : ∀ w ∈ wsX1_shares, w.before _ s = true := fun w h => hts0 w (wz_in (List.mem_append_right _ (List.mem_append_right _ (List.mem_append_left _ h))))
  have hown : s.vm.findClass RX1 = some m.cls := findClass_of_methodNamed B.named
  have hlocks := B.notSynchronized
  have hH : Hp D (Ec kA ly) ly n A s.heap S s.heap [] := ⟨hP, hD, va_S.rf⟩
  have hiX1 : ∀ w ∈ u_ws RX1 TX1 3, w ∈ wsX1_shares := by decide +kernel
  have lk0 := hts (.fieldLink RX1 7 "SlowPanes$DoubleThing" "trace" "LSlowPanes$Trace;") (by decide +kernel)
  have lk1 := hts (.sameField "SlowPanes$DoubleThing" "SlowPanes$Thing" "trace" "LSlowPanes$Trace;") (by decide +kernel)
  have hl := lv_entry ([.ref (ly o), .int a1]) (n := 2) (Nat.le_of_ble_eq_true rfl)
  rw [lg_entry_eq]
  generalize (lg_sl ([.ref (ly o), .int a1]) ++ List.replicate (2 - (lg_sl ([.ref (ly o), .int a1])).length) Slot.unset).toArray = ls at hl ⊢
  have hl : lv_has ls 2 [(0, .ref (ly o)), (1, .int a1)] := hl
  rw [wp_X1_shares_c1] at hw
  obtain ⟨ho, hw⟩ := hw
  refine lv_aload_n hx hb dX1_shares_0 rfl (lv_at hl 0 rfl) ?_
  refine k_get (ci := 1) (C := RX1) (T := TX1) (N := 3) hx hb hts hiX1 hown hK hH ho.2.1 (Ec_th ho) rfl 2 (by decide) lk0 (fun x h => u_same lk1 x h) rfl dX1_shares_1 ?_
  refine lv_bipush (v := 50) hx hb dX1_shares_4 (by decide +kernel) ?_
  refine k_aftv (va_runV (As := [.int (50 : Int32)]) (rest := []) ⟨hx, hb, hml, hown, hts⟩ (c_X9_begin l D kA ly n hn A (50 : Int32) S _) (cwV 1 hts gX1_shares_X9_begin rfl rfl rfl (by decide +kernel) ⟨(Nat.le_of_ble_eq_true rfl), (Nat.le_of_ble_eq_true rfl)⟩) ⟨k_blind, (k_recv hK hH (lt_n hn (by decide)) Ec_7 rfl), k_pre hK hN hH hw⟩ rfl rfl hl.1 rfl (lv_room (Nat.le_of_ble_eq_true rfl)) dX1_shares_6 ⟨Nat.le_refl _, Nat.le_refl _⟩) hH (fun S1 H locs hw hH => ?_)
  refine lv_aload_n hx hb dX1_shares_9 rfl (lv_at hl 0 rfl) ?_
  refine lv_iload_n hx hb dX1_shares_10 rfl (lv_at hl 1 rfl) ?_
  refine lv_iconst (v := 2) hx hb dX1_shares_11 (by decide +kernel) ?_
  refine lv_iadd hx hb dX1_shares_12 ?_
  obtain ⟨hs2, hw⟩ := hw
  refine k_afti (runSX (n := 1) (x := ⟨RX7, "shares", "(I)I"⟩) (As := [.int (a1 + (2 : Int32))]) (rest := []) (hK.1 1 _ rfl).2 ⟨hx, hb, hml, hown, hts0⟩ (c_X8_shares_c1 l D kA ly n hn A o (a1 + (2 : Int32)) S1 _) rfl (wz_goodIn (fun w h => List.mem_cons_of_mem _ h) (List.mem_append_right _ (List.mem_append_right _ (List.mem_append_right _ (List.mem_append_right _ (List.mem_append_right _ (List.mem_append_right _ (List.mem_append_right _ (List.mem_append_right _ (List.mem_append_right _ (List.mem_append_right _ (List.mem_append_right _ (List.mem_append_left _ List.mem_cons_self))))))))))))) rfl rfl ⟨(Nat.le_of_ble_eq_true rfl), (Nat.le_of_ble_eq_true rfl)⟩ (hts0 (.methodLink RX1 19 ⟨RX7, "shares", "(I)I"⟩) (wz_inE (by decide +kernel))) (hts0 (.sameMethod RX7 RX8 "shares" "(I)I") (wz_inE (by decide +kernel))) (hts0 (.superclass RX1 RX7) (wz_inE (by decide +kernel))) (hts0 (.superclass RX7 RX8) (wz_inE (by decide +kernel))) (hts0 (.instanceMethod yX8_shares) (wz_inE (by decide +kernel))) (hts0 (.initialized RX8) (wz_inE (by decide +kernel))) rfl (by decide +kernel) ⟨k_blind, (k_recv hK hH hs2.2.1 (Ec_th hs2) rfl), k_pre hK hN hH hw⟩ rfl rfl hl.1 rfl (lv_room (Nat.le_of_ble_eq_true rfl)) dX1_shares_13 ⟨Nat.le_refl _, Nat.le_refl _⟩) hH (fun r4 S3 H locs hw hH => ?_)
  refine lv_iconst (v := 1) hx hb dX1_shares_16 (by decide +kernel) ?_
  refine lv_ixor hx hb dX1_shares_17 ?_
  exact k_iret hx hb hr hlocks hK hN hH hw dX1_shares_18
def wp_X8_tells_c1 (n : List Nat) (o : Nat) (a1 : Int32) (S : St) (Q : Int32 → St → Prop) : Prop := (isTh n S 1 o ∧ wp_X9_begin (13 : Int32) S (fun S1 => (isTh n S1 1 o ∧ wp_X7_moves_c1 n o a1 S1 (fun r4 S3 => (isTh n S3 1 o ∧ Q (r4 ^^^ (gI S3 o 1)) S3)))))
set_option maxHeartbeats 4000000 in
set_option maxRecDepth 100000 in
theorem c_X8_tells_c1 (l : Launch) (D : va_G) (kA : Nat → ClassId) (ly : Nat → Nat) (n : List Nat) (hn : ∀ c, c < 59 → c ∈ n) (A : Nat → Prop) (o : Nat) (a1 : Int32) : Ci l yX8_tells (wz yX8_tells cX8_tells 2 (some .int)) 5 105 (Gp D (Ec kA ly) ly n A kA) A [.ref (ly o), .int a1] (wp_X8_tells_c1 n o a1) := by
  intro S Q
  refine Met.ofW (cc := cX8_tells) (maxL := 2) (ret := (some .int)) (by decide) rfl ?_
  intro p e s m args below meth c s₁ B hml hv
  obtain ⟨rfl, ⟨hP, hD, hK, hN⟩, hw⟩ := hv
  have hx := B.exec
  have hb := B.bytes
  have hr := B.returns
  have hts0 := atoms_spec (ws := (wz yX8_tells cX8_tells 2 (some .int))) B.pre
  have hts : ∀ w ∈ wsX8_tells, w.before _ s = true := fun w h => hts0 w (wz_in (List.mem_append_right _ (List.mem_append_right _ (List.mem_append_right _ (List.mem_append_right _ (List.mem_append_right _ (List.mem_append_right _ (List.mem_append_right _ (List.mem_append_right _ (List.mem_append_right _ (List.mem_append_right _ (List.mem_append_right _ (List.mem_append_right _ (List.mem_append_left _ h))))))))))))))
  have hown : s.vm.findClass RX8 = some m.cls := findClass_of_methodNamed B.named
  have hlocks := B.notSynchronized
  have hH : Hp D (Ec kA ly) ly n A s.heap S s.heap [] := ⟨hP, hD, va_S.rf⟩
  have hiX1 : ∀ w ∈ u_ws RX1 TX1 3, w ∈ wsX8_tells := by decide +kernel
  have lk0 := hts (.fieldLink RX8 16 "SlowPanes$Thing" "trace" "LSlowPanes$Trace;") (by decide +kernel)
  have lk1 := hts (.fieldLink RX8 13 "SlowPanes$Thing" "a" "I") (by decide +kernel)
  have hl := lv_entry ([.ref (ly o), .int a1]) (n := 2) (Nat.le_of_ble_eq_true rfl)
  rw [lg_entry_eq]
  generalize (lg_sl ([.ref (ly o), .int a1]) ++ List.replicate (2 - (lg_sl ([.ref (ly o), .int a1])).length) Slot.unset).toArray = ls at hl ⊢
  have hl : lv_has ls 2 [(0, .ref (ly o)), (1, .int a1)] := hl
  rw [wp_X8_tells_c1] at hw
  obtain ⟨ho, hw⟩ := hw
  refine lv_aload_n hx hb dX8_tells_0 rfl (lv_at hl 0 rfl) ?_
  refine k_get (ci := 1) (C := RX1) (T := TX1) (N := 3) hx hb hts hiX1 hown hK hH ho.2.1 (Ec_th ho) rfl 2 (by decide) lk0 (fun _ h => h) rfl dX8_tells_1 ?_
  refine lv_bipush (v := 13) hx hb dX8_tells_4 (by decide +kernel) ?_
  refine k_aftv (va_runV (As := [.int (13 : Int32)]) (rest := []) ⟨hx, hb, hml, hown, hts⟩ (c_X9_begin l D kA ly n hn A (13 : Int32) S _) (cwV 1 hts gX8_tells_X9_begin rfl rfl rfl (by decide +kernel) ⟨(Nat.le_of_ble_eq_true rfl), (Nat.le_of_ble_eq_true rfl)⟩) ⟨k_blind, (k_recv hK hH (lt_n hn (by decide)) Ec_7 rfl), k_pre hK hN hH hw⟩ rfl rfl hl.1 rfl (lv_room (Nat.le_of_ble_eq_true rfl)) dX8_tells_6 ⟨Nat.le_refl _, Nat.le_refl _⟩) hH (fun S1 H locs hw hH => ?_)
  refine lv_aload_n hx hb dX8_tells_9 rfl (lv_at hl 0 rfl) ?_
  refine lv_iload_n hx hb dX8_tells_10 rfl (lv_at hl 1 rfl) ?_
  obtain ⟨hs2, hw⟩ := hw
  refine k_afti (va_runU (As := [.int a1]) (rest := []) ⟨hx, hb, hml, hown, hts0⟩ (c_X7_moves_c1 l D kA ly n hn A o a1 S1 _) (va_cwO 1 hts0 (good_pre gX8_tells_X7_moves_u34X1 (fun w h => wz_in (List.mem_append_right _ (List.mem_append_right _ (List.mem_append_right _ (List.mem_append_right _ (List.mem_append_right _ (List.mem_append_right _ (List.mem_append_right _ (List.mem_append_right _ (List.mem_append_right _ (List.mem_append_right _ (List.mem_append_right _ (List.mem_append_right _ (List.mem_append_left _ h)))))))))))))) (wz_goodIn (fun w h => List.mem_cons_of_mem _ h) (List.mem_append_right _ (List.mem_append_right _ (List.mem_append_right _ (List.mem_append_right _ (List.mem_append_right _ (List.mem_append_right _ (List.mem_append_right _ (List.mem_append_right _ (List.mem_append_left _ List.mem_cons_self))))))))))) rfl rfl rfl (show Cond.code yX8_moves cX8_moves 2 (some .int) ∈ _ from (wz_in (List.mem_append_right _ (List.mem_append_right _ (List.mem_append_right _ (List.mem_append_right _ (List.mem_append_right _ (List.mem_append_right _ (List.mem_append_right _ (List.mem_append_right _ (List.mem_append_right _ (List.mem_append_right _ (List.mem_append_left _ List.mem_cons_self))))))))))))) (by decide +kernel) ⟨(Nat.le_of_ble_eq_true rfl), (Nat.le_of_ble_eq_true rfl)⟩) ⟨k_blind, (k_recv hK hH hs2.2.1 (Ec_th hs2) rfl), k_pre hK hN hH hw⟩ rfl rfl hl.1 rfl (lv_room (Nat.le_of_ble_eq_true rfl)) dX8_tells_11 ⟨Nat.le_refl _, Nat.le_refl _⟩) hH (fun r4 S3 H locs hw hH => ?_)
  refine lv_aload_n hx hb dX8_tells_14 rfl (lv_at hl 0 rfl) ?_
  obtain ⟨hs5, hw⟩ := hw
  refine k_get (ci := 1) (C := RX1) (T := TX1) (N := 3) hx hb hts hiX1 hown hK hH hs5.2.1 (Ec_th hs5) rfl 1 (by decide) lk1 (fun _ h => h) rfl dX8_tells_15 ?_
  refine lv_ixor hx hb dX8_tells_18 ?_
  exact k_iret hx hb hr hlocks hK hN hH hw dX8_tells_19
def wp_X8_shows_c0 (n : List Nat) (o : Nat) (a1 : Int32) (S : St) (Q : Int32 → St → Prop) : Prop := (isTh n S 0 o ∧ wp_X9_begin (10 : Int32) S (fun S1 => (isTh n S1 0 o ∧ Q (a1 + (gI S1 o 0)) S1)))
set_option maxHeartbeats 4000000 in
set_option maxRecDepth 100000 in
theorem c_X8_shows_c0 (l : Launch) (D : va_G) (kA : Nat → ClassId) (ly : Nat → Nat) (n : List Nat) (hn : ∀ c, c < 59 → c ∈ n) (A : Nat → Prop) (o : Nat) (a1 : Int32) : Ci l yX8_shows (wz yX8_shows cX8_shows 2 (some .int)) 1 21 (Gp D (Ec kA ly) ly n A kA) A [.ref (ly o), .int a1] (wp_X8_shows_c0 n o a1) := by
  intro S Q
  refine Met.ofW (cc := cX8_shows) (maxL := 2) (ret := (some .int)) (by decide) rfl ?_
  intro p e s m args below meth c s₁ B hml hv
  obtain ⟨rfl, ⟨hP, hD, hK, hN⟩, hw⟩ := hv
  have hx := B.exec
  have hb := B.bytes
  have hr := B.returns
  have hts0 := atoms_spec (ws := (wz yX8_shows cX8_shows 2 (some .int))) B.pre
  have hts : ∀ w ∈ wsX8_shows, w.before _ s = true := fun w h => hts0 w (wz_in (List.mem_append_right _ (List.mem_append_right _ (List.mem_append_right _ (List.mem_append_right _ (List.mem_append_right _ (List.mem_append_right _ (List.mem_append_right _ (List.mem_append_right _ (List.mem_append_right _ (List.mem_append_left _ h)))))))))))
  have hown : s.vm.findClass RX8 = some m.cls := findClass_of_methodNamed B.named
  have hlocks := B.notSynchronized
  have hH : Hp D (Ec kA ly) ly n A s.heap S s.heap [] := ⟨hP, hD, va_S.rf⟩
  have hiX0 : ∀ w ∈ u_ws RX0 TX0 3, w ∈ wsX8_shows := by decide +kernel
  have lk0 := hts (.fieldLink RX8 16 "SlowPanes$Thing" "trace" "LSlowPanes$Trace;") (by decide +kernel)
  have lk1 := hts (.fieldLink RX8 7 "SlowPanes$Thing" "n" "I") (by decide +kernel)
  have hl := lv_entry ([.ref (ly o), .int a1]) (n := 2) (Nat.le_of_ble_eq_true rfl)
  rw [lg_entry_eq]
  generalize (lg_sl ([.ref (ly o), .int a1]) ++ List.replicate (2 - (lg_sl ([.ref (ly o), .int a1])).length) Slot.unset).toArray = ls at hl ⊢
  have hl : lv_has ls 2 [(0, .ref (ly o)), (1, .int a1)] := hl
  rw [wp_X8_shows_c0] at hw
  obtain ⟨ho, hw⟩ := hw
  refine lv_aload_n hx hb dX8_shows_0 rfl (lv_at hl 0 rfl) ?_
  refine k_get (ci := 0) (C := RX0) (T := TX0) (N := 3) hx hb hts hiX0 hown hK hH ho.2.1 (Ec_th ho) rfl 2 (by decide) lk0 (fun _ h => h) rfl dX8_shows_1 ?_
  refine lv_bipush (v := 10) hx hb dX8_shows_4 (by decide +kernel) ?_
  refine k_aftv (va_runV (As := [.int (10 : Int32)]) (rest := []) ⟨hx, hb, hml, hown, hts⟩ (c_X9_begin l D kA ly n hn A (10 : Int32) S _) (cwV 1 hts gX8_shows_X9_begin rfl rfl rfl (by decide +kernel) ⟨(Nat.le_of_ble_eq_true rfl), (Nat.le_of_ble_eq_true rfl)⟩) ⟨k_blind, (k_recv hK hH (lt_n hn (by decide)) Ec_7 rfl), k_pre hK hN hH hw⟩ rfl rfl hl.1 rfl (lv_room (Nat.le_of_ble_eq_true rfl)) dX8_shows_6 ⟨Nat.le_refl _, Nat.le_refl _⟩) hH (fun S1 H locs hw hH => ?_)
  refine lv_iload_n hx hb dX8_shows_9 rfl (lv_at hl 1 rfl) ?_
  refine lv_aload_n hx hb dX8_shows_10 rfl (lv_at hl 0 rfl) ?_
  obtain ⟨hs2, hw⟩ := hw
  refine k_get (ci := 0) (C := RX0) (T := TX0) (N := 3) hx hb hts hiX0 hown hK hH hs2.2.1 (Ec_th hs2) rfl 0 (by decide) lk1 (fun _ h => h) rfl dX8_shows_11 ?_
  refine lv_iadd hx hb dX8_shows_14 ?_
  exact k_iret hx hb hr hlocks hK hN hH hw dX8_shows_15
def wp_X0_shows_c0 (n : List Nat) (o : Nat) (a1 : Int32) (S : St) (Q : Int32 → St → Prop) : Prop := (isTh n S 0 o ∧ wp_X9_begin (30 : Int32) S (fun S1 => (isTh n S1 0 o ∧ wp_X8_shows_c0 n o a1 S1 (fun r4 S3 => Q (r4 * (3 : Int32)) S3))))
set_option maxHeartbeats 4000000 in
set_option maxRecDepth 100000 in
theorem c_X0_shows_c0 (l : Launch) (D : va_G) (kA : Nat → ClassId) (ly : Nat → Nat) (n : List Nat) (hn : ∀ c, c < 59 → c ∈ n) (A : Nat → Prop) (o : Nat) (a1 : Int32) : Ci l yX0_shows (wz yX0_shows cX0_shows 2 (some .int)) 2 42 (Gp D (Ec kA ly) ly n A kA) A [.ref (ly o), .int a1] (wp_X0_shows_c0 n o a1) := by
  intro S Q
  refine Met.ofW (cc := cX0_shows) (maxL := 2) (ret := (some .int)) (by decide) rfl ?_
  intro p e s m args below meth c s₁ B hml hv
  obtain ⟨rfl, ⟨hP, hD, hK, hN⟩, hw⟩ := hv
  have hx := B.exec
  have hb := B.bytes
  have hr := B.returns
  have hts0 := atoms_spec (ws := (wz yX0_shows cX0_shows 2 (some .int))) B.pre
  have hts : ∀ w ∈ wsX0_shows, w.before _ s = true := fun w h => hts0 w (wz_in (List.mem_append_left _ h))
  have hown : s.vm.findClass RX0 = some m.cls := findClass_of_methodNamed B.named
  have hlocks := B.notSynchronized
  have hH : Hp D (Ec kA ly) ly n A s.heap S s.heap [] := ⟨hP, hD, va_S.rf⟩
  have hiX0 : ∀ w ∈ u_ws RX0 TX0 3, w ∈ wsX0_shows := by decide +kernel
  have lk0 := hts (.fieldLink RX0 7 "SlowPanes$DarkThing" "trace" "LSlowPanes$Trace;") (by decide +kernel)
  have lk1 := hts (.sameField "SlowPanes$DarkThing" "SlowPanes$Thing" "trace" "LSlowPanes$Trace;") (by decide +kernel)
  have hl := lv_entry ([.ref (ly o), .int a1]) (n := 2) (Nat.le_of_ble_eq_true rfl)
  rw [lg_entry_eq]
  generalize (lg_sl ([.ref (ly o), .int a1]) ++ List.replicate (2 - (lg_sl ([.ref (ly o), .int a1])).length) Slot.unset).toArray = ls at hl ⊢
  have hl : lv_has ls 2 [(0, .ref (ly o)), (1, .int a1)] := hl
  rw [wp_X0_shows_c0] at hw
  obtain ⟨ho, hw⟩ := hw
  refine lv_aload_n hx hb dX0_shows_0 rfl (lv_at hl 0 rfl) ?_
  refine k_get (ci := 0) (C := RX0) (T := TX0) (N := 3) hx hb hts hiX0 hown hK hH ho.2.1 (Ec_th ho) rfl 2 (by decide) lk0 (fun x h => u_same lk1 x h) rfl dX0_shows_1 ?_
  refine lv_bipush (v := 30) hx hb dX0_shows_4 (by decide +kernel) ?_
  refine k_aftv (va_runV (As := [.int (30 : Int32)]) (rest := []) ⟨hx, hb, hml, hown, hts⟩ (c_X9_begin l D kA ly n hn A (30 : Int32) S _) (cwV 1 hts gX0_shows_X9_begin rfl rfl rfl (by decide +kernel) ⟨(Nat.le_of_ble_eq_true rfl), (Nat.le_of_ble_eq_true rfl)⟩) ⟨k_blind, (k_recv hK hH (lt_n hn (by decide)) Ec_7 rfl), k_pre hK hN hH hw⟩ rfl rfl hl.1 rfl (lv_room (Nat.le_of_ble_eq_true rfl)) dX0_shows_6 ⟨Nat.le_refl _, Nat.le_refl _⟩) hH (fun S1 H locs hw hH => ?_)
  refine lv_aload_n hx hb dX0_shows_9 rfl (lv_at hl 0 rfl) ?_
  refine lv_iload_n hx hb dX0_shows_10 rfl (lv_at hl 1 rfl) ?_
  obtain ⟨hs2, hw⟩ := hw
  refine k_afti (va_runSU (As := [.int a1]) (rest := []) (hK.1 0 _ rfl).2 ⟨hx, hb, hml, hown, hts0⟩ (c_X8_shows_c0 l D kA ly n hn A o a1 S1 _) (va_cwSU 1 hts0 (good_pre gX0_shows_X8_shows_s19 (fun w h => wz_in (List.mem_append_left _ h)) (wz_goodIn (fun w h => List.mem_cons_of_mem _ h) (List.mem_append_right _ (List.mem_append_right _ (List.mem_append_right _ (List.mem_append_right _ (List.mem_append_right _ (List.mem_append_right _ (List.mem_append_right _ (List.mem_append_right _ (List.mem_append_right _ (List.mem_append_left _ List.mem_cons_self)))))))))))) rfl rfl rfl (by decide +kernel) ⟨(Nat.le_of_ble_eq_true rfl), (Nat.le_of_ble_eq_true rfl)⟩) ⟨k_blind, (k_recv hK hH hs2.2.1 (Ec_th hs2) rfl), k_pre hK hN hH hw⟩ rfl rfl hl.1 rfl (lv_room (Nat.le_of_ble_eq_true rfl)) dX0_shows_11 ⟨Nat.le_refl _, Nat.le_refl _⟩) hH (fun r4 S3 H locs hw hH => ?_)
  refine lv_iconst (v := 3) hx hb dX0_shows_14 (by decide +kernel) ?_
  refine lv_imul hx hb dX0_shows_15 ?_
  exact k_iret hx hb hr hlocks hK hN hH hw dX0_shows_16
def wp_X8_moves_c0 (n : List Nat) (o : Nat) (a1 : Int32) (S : St) (Q : Int32 → St → Prop) : Prop := (isTh n S 0 o ∧ wp_X9_begin (11 : Int32) S (fun S1 => (isTh n S1 0 o ∧ wp_X0_shows_c0 n o a1 S1 (fun r4 S3 => Q (r4 * (2 : Int32)) S3))))
set_option maxHeartbeats 4000000 in
set_option maxRecDepth 100000 in
theorem c_X8_moves_c0 (l : Launch) (D : va_G) (kA : Nat → ClassId) (ly : Nat → Nat) (n : List Nat) (hn : ∀ c, c < 59 → c ∈ n) (A : Nat → Prop) (o : Nat) (a1 : Int32) : Ci l yX8_moves (wz yX8_moves cX8_moves 2 (some .int)) 3 63 (Gp D (Ec kA ly) ly n A kA) A [.ref (ly o), .int a1] (wp_X8_moves_c0 n o a1) := by
  intro S Q
  refine Met.ofW (cc := cX8_moves) (maxL := 2) (ret := (some .int)) (by decide) rfl ?_
  intro p e s m args below meth c s₁ B hml hv
  obtain ⟨rfl, ⟨hP, hD, hK, hN⟩, hw⟩ := hv
  have hx := B.exec
  have hb := B.bytes
  have hr := B.returns
  have hts0 := atoms_spec (ws := (wz yX8_moves cX8_moves 2 (some .int))) B.pre
  have hts : ∀ w ∈ wsX8_moves, w.before _ s = true := fun w h => hts0 w (wz_in (List.mem_append_right _ (List.mem_append_right _ (List.mem_append_right _ (List.mem_append_right _ (List.mem_append_right _ (List.mem_append_right _ (List.mem_append_right _ (List.mem_append_right _ (List.mem_append_right _ (List.mem_append_right _ (List.mem_append_left _ h))))))))))))
  have hown : s.vm.findClass RX8 = some m.cls := findClass_of_methodNamed B.named
  have hlocks := B.notSynchronized
  have hH : Hp D (Ec kA ly) ly n A s.heap S s.heap [] := ⟨hP, hD, va_S.rf⟩
  have hiX0 : ∀ w ∈ u_ws RX0 TX0 3, w ∈ wsX8_moves := by decide +kernel
  have lk0 := hts (.fieldLink RX8 16 "SlowPanes$Thing" "trace" "LSlowPanes$Trace;") (by decide +kernel)
  have hl := lv_entry ([.ref (ly o), .int a1]) (n := 2) (Nat.le_of_ble_eq_true rfl)
  rw [lg_entry_eq]
  generalize (lg_sl ([.ref (ly o), .int a1]) ++ List.replicate (2 - (lg_sl ([.ref (ly o), .int a1])).length) Slot.unset).toArray = ls at hl ⊢
  have hl : lv_has ls 2 [(0, .ref (ly o)), (1, .int a1)] := hl
  rw [wp_X8_moves_c0] at hw
  obtain ⟨ho, hw⟩ := hw
  refine lv_aload_n hx hb dX8_moves_0 rfl (lv_at hl 0 rfl) ?_
  refine k_get (ci := 0) (C := RX0) (T := TX0) (N := 3) hx hb hts hiX0 hown hK hH ho.2.1 (Ec_th ho) rfl 2 (by decide) lk0 (fun _ h => h) rfl dX8_moves_1 ?_
  refine lv_bipush (v := 11) hx hb dX8_moves_4 (by decide +kernel) ?_
  refine k_aftv (va_runV (As := [.int (11 : Int32)]) (rest := []) ⟨hx, hb, hml, hown, hts⟩ (c_X9_begin l D kA ly n hn A (11 : Int32) S _) (cwV 1 hts gX8_moves_X9_begin rfl rfl rfl (by decide +kernel) ⟨(Nat.le_of_ble_eq_true rfl), (Nat.le_of_ble_eq_true rfl)⟩) ⟨k_blind, (k_recv hK hH (lt_n hn (by decide)) Ec_7 rfl), k_pre hK hN hH hw⟩ rfl rfl hl.1 rfl (lv_room (Nat.le_of_ble_eq_true rfl)) dX8_moves_6 ⟨Nat.le_refl _, Nat.le_refl _⟩) hH (fun S1 H locs hw hH => ?_)
  refine lv_aload_n hx hb dX8_moves_9 rfl (lv_at hl 0 rfl) ?_
  refine lv_iload_n hx hb dX8_moves_10 rfl (lv_at hl 1 rfl) ?_
  obtain ⟨hs2, hw⟩ := hw
  refine k_afti (va_runU (As := [.int a1]) (rest := []) ⟨hx, hb, hml, hown, hts0⟩ (c_X0_shows_c0 l D kA ly n hn A o a1 S1 _) (va_cwO 1 hts0 (good_pre gX8_moves_X0_shows_u26X0 (fun w h => wz_in (List.mem_append_right _ (List.mem_append_right _ (List.mem_append_right _ (List.mem_append_right _ (List.mem_append_right _ (List.mem_append_right _ (List.mem_append_right _ (List.mem_append_right _ (List.mem_append_right _ (List.mem_append_right _ (List.mem_append_left _ h)))))))))))) (wz_goodIn (fun w h => List.mem_cons_of_mem _ h) (List.mem_append_left _ List.mem_cons_self))) rfl rfl rfl (show Cond.code yX8_shows cX8_shows 2 (some .int) ∈ _ from (wz_in (List.mem_append_right _ (List.mem_append_right _ (List.mem_append_right _ (List.mem_append_right _ (List.mem_append_right _ (List.mem_append_right _ (List.mem_append_right _ (List.mem_append_right _ (List.mem_append_right _ (List.mem_append_left _ List.mem_cons_self)))))))))))) (by decide +kernel) ⟨(Nat.le_of_ble_eq_true rfl), (Nat.le_of_ble_eq_true rfl)⟩) ⟨k_blind, (k_recv hK hH hs2.2.1 (Ec_th hs2) rfl), k_pre hK hN hH hw⟩ rfl rfl hl.1 rfl (lv_room (Nat.le_of_ble_eq_true rfl)) dX8_moves_11 ⟨Nat.le_refl _, Nat.le_refl _⟩) hH (fun r4 S3 H locs hw hH => ?_)
  refine lv_iconst (v := 2) hx hb dX8_moves_14 (by decide +kernel) ?_
  refine lv_imul hx hb dX8_moves_15 ?_
  exact k_iret hx hb hr hlocks hK hN hH hw dX8_moves_16
def wp_X8_shares_c0 (n : List Nat) (o : Nat) (a1 : Int32) (S : St) (Q : Int32 → St → Prop) : Prop := (isTh n S 0 o ∧ wp_X9_begin (12 : Int32) S (fun S1 => (isTh n S1 0 o ∧ wp_X9_part a1 ((gI S1 o 1) - (gI S1 o 0)) S1 (fun r4 S3 => Q r4 S3))))
set_option maxHeartbeats 4000000 in
set_option maxRecDepth 100000 in
theorem c_X8_shares_c0 (l : Launch) (D : va_G) (kA : Nat → ClassId) (ly : Nat → Nat) (n : List Nat) (hn : ∀ c, c < 59 → c ∈ n) (A : Nat → Prop) (o : Nat) (a1 : Int32) : Ci l yX8_shares (wz yX8_shares cX8_shares 2 (some .int)) 1 22 (Gp D (Ec kA ly) ly n A kA) A [.ref (ly o), .int a1] (wp_X8_shares_c0 n o a1) := by
  intro S Q
  refine Met.ofW (cc := cX8_shares) (maxL := 2) (ret := (some .int)) (by decide) rfl ?_
  intro p e s m args below meth c s₁ B hml hv
  obtain ⟨rfl, ⟨hP, hD, hK, hN⟩, hw⟩ := hv
  have hx := B.exec
  have hb := B.bytes
  have hr := B.returns
  have hts0 := atoms_spec (ws := (wz yX8_shares cX8_shares 2 (some .int))) B.pre
  have hts : ∀ w ∈ wsX8_shares, w.before _ s = true := fun w h => hts0 w (wz_in (List.mem_append_right _ (List.mem_append_right _ (List.mem_append_right _ (List.mem_append_right _ (List.mem_append_right _ (List.mem_append_right _ (List.mem_append_right _ (List.mem_append_right _ (List.mem_append_right _ (List.mem_append_right _ (List.mem_append_right _ (List.mem_append_left _ h)))))))))))))
  have hown : s.vm.findClass RX8 = some m.cls := findClass_of_methodNamed B.named
  have hlocks := B.notSynchronized
  have hH : Hp D (Ec kA ly) ly n A s.heap S s.heap [] := ⟨hP, hD, va_S.rf⟩
  have hiX0 : ∀ w ∈ u_ws RX0 TX0 3, w ∈ wsX8_shares := by decide +kernel
  have lk0 := hts (.fieldLink RX8 16 "SlowPanes$Thing" "trace" "LSlowPanes$Trace;") (by decide +kernel)
  have lk1 := hts (.fieldLink RX8 13 "SlowPanes$Thing" "a" "I") (by decide +kernel)
  have lk2 := hts (.fieldLink RX8 7 "SlowPanes$Thing" "n" "I") (by decide +kernel)
  have hl := lv_entry ([.ref (ly o), .int a1]) (n := 2) (Nat.le_of_ble_eq_true rfl)
  rw [lg_entry_eq]
  generalize (lg_sl ([.ref (ly o), .int a1]) ++ List.replicate (2 - (lg_sl ([.ref (ly o), .int a1])).length) Slot.unset).toArray = ls at hl ⊢
  have hl : lv_has ls 2 [(0, .ref (ly o)), (1, .int a1)] := hl
  rw [wp_X8_shares_c0] at hw
  obtain ⟨ho, hw⟩ := hw
  refine lv_aload_n hx hb dX8_shares_0 rfl (lv_at hl 0 rfl) ?_
  refine k_get (ci := 0) (C := RX0) (T := TX0) (N := 3) hx hb hts hiX0 hown hK hH ho.2.1 (Ec_th ho) rfl 2 (by decide) lk0 (fun _ h => h) rfl dX8_shares_1 ?_
  refine lv_bipush (v := 12) hx hb dX8_shares_4 (by decide +kernel) ?_
  refine k_aftv (va_runV (As := [.int (12 : Int32)]) (rest := []) ⟨hx, hb, hml, hown, hts⟩ (c_X9_begin l D kA ly n hn A (12 : Int32) S _) (cwV 1 hts gX8_shares_X9_begin rfl rfl rfl (by decide +kernel) ⟨(Nat.le_of_ble_eq_true rfl), (Nat.le_of_ble_eq_true rfl)⟩) ⟨k_blind, (k_recv hK hH (lt_n hn (by decide)) Ec_7 rfl), k_pre hK hN hH hw⟩ rfl rfl hl.1 rfl (lv_room (Nat.le_of_ble_eq_true rfl)) dX8_shares_6 ⟨Nat.le_refl _, Nat.le_refl _⟩) hH (fun S1 H locs hw hH => ?_)
  refine lv_aload_n hx hb dX8_shares_9 rfl (lv_at hl 0 rfl) ?_
  obtain ⟨hs2, hw⟩ := hw
  refine k_get (ci := 0) (C := RX0) (T := TX0) (N := 3) hx hb hts hiX0 hown hK hH hs2.2.1 (Ec_th hs2) rfl 2 (by decide) lk0 (fun _ h => h) rfl dX8_shares_10 ?_
  refine lv_iload_n hx hb dX8_shares_13 rfl (lv_at hl 1 rfl) ?_
  refine lv_aload_n hx hb dX8_shares_14 rfl (lv_at hl 0 rfl) ?_
  refine k_get (ci := 0) (C := RX0) (T := TX0) (N := 3) hx hb hts hiX0 hown hK hH hs2.2.1 (Ec_th hs2) rfl 1 (by decide) lk1 (fun _ h => h) rfl dX8_shares_15 ?_
  refine lv_aload_n hx hb dX8_shares_18 rfl (lv_at hl 0 rfl) ?_
  refine k_get (ci := 0) (C := RX0) (T := TX0) (N := 3) hx hb hts hiX0 hown hK hH hs2.2.1 (Ec_th hs2) rfl 0 (by decide) lk2 (fun _ h => h) rfl dX8_shares_19 ?_
  refine lv_isub hx hb dX8_shares_22 ?_
  refine k_afti (va_runV (As := [.int a1, .int ((gI S1 o 1) - (gI S1 o 0))]) (rest := []) ⟨hx, hb, hml, hown, hts⟩ (c_X9_part l D kA ly n hn A a1 ((gI S1 o 1) - (gI S1 o 0)) S1 _) (cwV 2 hts gX8_shares_X9_part rfl rfl rfl (by decide +kernel) ⟨(Nat.le_of_ble_eq_true rfl), (Nat.le_of_ble_eq_true rfl)⟩) ⟨k_blind, (k_recv hK hH (lt_n hn (by decide)) Ec_7 rfl), k_pre hK hN hH hw⟩ rfl rfl hl.1 rfl (lv_room (Nat.le_of_ble_eq_true rfl)) dX8_shares_23 ⟨Nat.le_refl _, Nat.le_refl _⟩) hH (fun r4 S3 H locs hw hH => ?_)
  exact k_iret hx hb hr hlocks hK hN hH hw dX8_shares_26
def wp_X8_tells_c0 (n : List Nat) (o : Nat) (a1 : Int32) (S : St) (Q : Int32 → St → Prop) : Prop := (isTh n S 0 o ∧ wp_X9_begin (13 : Int32) S (fun S1 => (isTh n S1 0 o ∧ wp_X8_moves_c0 n o a1 S1 (fun r4 S3 => (isTh n S3 0 o ∧ Q (r4 ^^^ (gI S3 o 1)) S3)))))
set_option maxHeartbeats 4000000 in
set_option maxRecDepth 100000 in
theorem c_X8_tells_c0 (l : Launch) (D : va_G) (kA : Nat → ClassId) (ly : Nat → Nat) (n : List Nat) (hn : ∀ c, c < 59 → c ∈ n) (A : Nat → Prop) (o : Nat) (a1 : Int32) : Ci l yX8_tells (wz yX8_tells cX8_tells 2 (some .int)) 4 84 (Gp D (Ec kA ly) ly n A kA) A [.ref (ly o), .int a1] (wp_X8_tells_c0 n o a1) := by
  intro S Q
  refine Met.ofW (cc := cX8_tells) (maxL := 2) (ret := (some .int)) (by decide) rfl ?_
  intro p e s m args below meth c s₁ B hml hv
  obtain ⟨rfl, ⟨hP, hD, hK, hN⟩, hw⟩ := hv
  have hx := B.exec
  have hb := B.bytes
  have hr := B.returns
  have hts0 := atoms_spec (ws := (wz yX8_tells cX8_tells 2 (some .int))) B.pre
  have hts : ∀ w ∈ wsX8_tells, w.before _ s = true := fun w h => hts0 w (wz_in (List.mem_append_right _ (List.mem_append_right _ (List.mem_append_right _ (List.mem_append_right _ (List.mem_append_right _ (List.mem_append_right _ (List.mem_append_right _ (List.mem_append_right _ (List.mem_append_right _ (List.mem_append_right _ (List.mem_append_right _ (List.mem_append_right _ (List.mem_append_left _ h))))))))))))))
  have hown : s.vm.findClass RX8 = some m.cls := findClass_of_methodNamed B.named
  have hlocks := B.notSynchronized
  have hH : Hp D (Ec kA ly) ly n A s.heap S s.heap [] := ⟨hP, hD, va_S.rf⟩
  have hiX0 : ∀ w ∈ u_ws RX0 TX0 3, w ∈ wsX8_tells := by decide +kernel
  have lk0 := hts (.fieldLink RX8 16 "SlowPanes$Thing" "trace" "LSlowPanes$Trace;") (by decide +kernel)
  have lk1 := hts (.fieldLink RX8 13 "SlowPanes$Thing" "a" "I") (by decide +kernel)
  have hl := lv_entry ([.ref (ly o), .int a1]) (n := 2) (Nat.le_of_ble_eq_true rfl)
  rw [lg_entry_eq]
  generalize (lg_sl ([.ref (ly o), .int a1]) ++ List.replicate (2 - (lg_sl ([.ref (ly o), .int a1])).length) Slot.unset).toArray = ls at hl ⊢
  have hl : lv_has ls 2 [(0, .ref (ly o)), (1, .int a1)] := hl
  rw [wp_X8_tells_c0] at hw
  obtain ⟨ho, hw⟩ := hw
  refine lv_aload_n hx hb dX8_tells_0 rfl (lv_at hl 0 rfl) ?_
  refine k_get (ci := 0) (C := RX0) (T := TX0) (N := 3) hx hb hts hiX0 hown hK hH ho.2.1 (Ec_th ho) rfl 2 (by decide) lk0 (fun _ h => h) rfl dX8_tells_1 ?_
  refine lv_bipush (v := 13) hx hb dX8_tells_4 (by decide +kernel) ?_
  refine k_aftv (va_runV (As := [.int (13 : Int32)]) (rest := []) ⟨hx, hb, hml, hown, hts⟩ (c_X9_begin l D kA ly n hn A (13 : Int32) S _) (cwV 1 hts gX8_tells_X9_begin rfl rfl rfl (by decide +kernel) ⟨(Nat.le_of_ble_eq_true rfl), (Nat.le_of_ble_eq_true rfl)⟩) ⟨k_blind, (k_recv hK hH (lt_n hn (by decide)) Ec_7 rfl), k_pre hK hN hH hw⟩ rfl rfl hl.1 rfl (lv_room (Nat.le_of_ble_eq_true rfl)) dX8_tells_6 ⟨Nat.le_refl _, Nat.le_refl _⟩) hH (fun S1 H locs hw hH => ?_)
  refine lv_aload_n hx hb dX8_tells_9 rfl (lv_at hl 0 rfl) ?_
  refine lv_iload_n hx hb dX8_tells_10 rfl (lv_at hl 1 rfl) ?_
  obtain ⟨hs2, hw⟩ := hw
  refine k_afti (va_runU (As := [.int a1]) (rest := []) ⟨hx, hb, hml, hown, hts0⟩ (c_X8_moves_c0 l D kA ly n hn A o a1 S1 _) (va_cwU 1 hts0 (good_pre gX8_tells_X8_moves_u34X0 (fun w h => wz_in (List.mem_append_right _ (List.mem_append_right _ (List.mem_append_right _ (List.mem_append_right _ (List.mem_append_right _ (List.mem_append_right _ (List.mem_append_right _ (List.mem_append_right _ (List.mem_append_right _ (List.mem_append_right _ (List.mem_append_right _ (List.mem_append_right _ (List.mem_append_left _ h)))))))))))))) (wz_goodIn (fun w h => List.mem_cons_of_mem _ h) (List.mem_append_right _ (List.mem_append_right _ (List.mem_append_right _ (List.mem_append_right _ (List.mem_append_right _ (List.mem_append_right _ (List.mem_append_right _ (List.mem_append_right _ (List.mem_append_right _ (List.mem_append_right _ (List.mem_append_left _ List.mem_cons_self))))))))))))) rfl rfl rfl rfl (by decide +kernel) ⟨(Nat.le_of_ble_eq_true rfl), (Nat.le_of_ble_eq_true rfl)⟩) ⟨k_blind, (k_recv hK hH hs2.2.1 (Ec_th hs2) rfl), k_pre hK hN hH hw⟩ rfl rfl hl.1 rfl (lv_room (Nat.le_of_ble_eq_true rfl)) dX8_tells_11 ⟨Nat.le_refl _, Nat.le_refl _⟩) hH (fun r4 S3 H locs hw hH => ?_)
  refine lv_aload_n hx hb dX8_tells_14 rfl (lv_at hl 0 rfl) ?_
  obtain ⟨hs5, hw⟩ := hw
  refine k_get (ci := 0) (C := RX0) (T := TX0) (N := 3) hx hb hts hiX0 hown hK hH hs5.2.1 (Ec_th hs5) rfl 1 (by decide) lk1 (fun _ h => h) rfl dX8_tells_15 ?_
  refine lv_ixor hx hb dX8_tells_18 ?_
  exact k_iret hx hb hr hlocks hK hN hH hw dX8_tells_19
def wp_X0_tells_c0 (n : List Nat) (o : Nat) (a1 : Int32) (S : St) (Q : Int32 → St → Prop) : Prop := (isTh n S 0 o ∧ wp_X9_begin (31 : Int32) S (fun S1 => (isTh n S1 0 o ∧ wp_X8_tells_c0 n o a1 S1 (fun r4 S3 => (isTh n S3 0 o ∧ wp_X8_shares_c0 n o (gI S3 o 0) S3 (fun r7 S6 => Q (r4 + r7) S6))))))
set_option maxHeartbeats 4000000 in
set_option maxRecDepth 100000 in
theorem c_X0_tells_c0 (l : Launch) (D : va_G) (kA : Nat → ClassId) (ly : Nat → Nat) (n : List Nat) (hn : ∀ c, c < 59 → c ∈ n) (A : Nat → Prop) (o : Nat) (a1 : Int32) : Ci l yX0_tells (wz yX0_tells cX0_tells 2 (some .int)) 5 105 (Gp D (Ec kA ly) ly n A kA) A [.ref (ly o), .int a1] (wp_X0_tells_c0 n o a1) := by
  intro S Q
  refine Met.ofW (cc := cX0_tells) (maxL := 2) (ret := (some .int)) (by decide) rfl ?_
  intro p e s m args below meth c s₁ B hml hv
  obtain ⟨rfl, ⟨hP, hD, hK, hN⟩, hw⟩ := hv
  have hx := B.exec
  have hb := B.bytes
  have hr := B.returns
  have hts0 := atoms_spec (ws := (wz yX0_tells cX0_tells 2 (some .int))) B.pre
  have hts : ∀ w ∈ wsX0_tells, w.before _ s = true := fun w h => hts0 w (wz_in (List.mem_append_right _ (List.mem_append_left _ h)))
  have hown : s.vm.findClass RX0 = some m.cls := findClass_of_methodNamed B.named
  have hlocks := B.notSynchronized
  have hH : Hp D (Ec kA ly) ly n A s.heap S s.heap [] := ⟨hP, hD, va_S.rf⟩
  have hiX0 : ∀ w ∈ u_ws RX0 TX0 3, w ∈ wsX0_tells := by decide +kernel
  have lk0 := hts (.fieldLink RX0 7 "SlowPanes$DarkThing" "trace" "LSlowPanes$Trace;") (by decide +kernel)
  have lk1 := hts (.sameField "SlowPanes$DarkThing" "SlowPanes$Thing" "trace" "LSlowPanes$Trace;") (by decide +kernel)
  have lk2 := hts (.fieldLink RX0 26 "SlowPanes$DarkThing" "n" "I") (by decide +kernel)
  have lk3 := hts (.sameField "SlowPanes$DarkThing" "SlowPanes$Thing" "n" "I") (by decide +kernel)
  have hl := lv_entry ([.ref (ly o), .int a1]) (n := 2) (Nat.le_of_ble_eq_true rfl)
  rw [lg_entry_eq]
  generalize (lg_sl ([.ref (ly o), .int a1]) ++ List.replicate (2 - (lg_sl ([.ref (ly o), .int a1])).length) Slot.unset).toArray = ls at hl ⊢
  have hl : lv_has ls 2 [(0, .ref (ly o)), (1, .int a1)] := hl
  rw [wp_X0_tells_c0] at hw
  obtain ⟨ho, hw⟩ := hw
  refine lv_aload_n hx hb dX0_tells_0 rfl (lv_at hl 0 rfl) ?_
  refine k_get (ci := 0) (C := RX0) (T := TX0) (N := 3) hx hb hts hiX0 hown hK hH ho.2.1 (Ec_th ho) rfl 2 (by decide) lk0 (fun x h => u_same lk1 x h) rfl dX0_tells_1 ?_
  refine lv_bipush (v := 31) hx hb dX0_tells_4 (by decide +kernel) ?_
  refine k_aftv (va_runV (As := [.int (31 : Int32)]) (rest := []) ⟨hx, hb, hml, hown, hts⟩ (c_X9_begin l D kA ly n hn A (31 : Int32) S _) (cwV 1 hts gX0_tells_X9_begin rfl rfl rfl (by decide +kernel) ⟨(Nat.le_of_ble_eq_true rfl), (Nat.le_of_ble_eq_true rfl)⟩) ⟨k_blind, (k_recv hK hH (lt_n hn (by decide)) Ec_7 rfl), k_pre hK hN hH hw⟩ rfl rfl hl.1 rfl (lv_room (Nat.le_of_ble_eq_true rfl)) dX0_tells_6 ⟨Nat.le_refl _, Nat.le_refl _⟩) hH (fun S1 H locs hw hH => ?_)
  refine lv_aload_n hx hb dX0_tells_9 rfl (lv_at hl 0 rfl) ?_
  refine lv_iload_n hx hb dX0_tells_10 rfl (lv_at hl 1 rfl) ?_
  obtain ⟨hs2, hw⟩ := hw
  refine k_afti (va_runSU (As := [.int a1]) (rest := []) (hK.1 0 _ rfl).2 ⟨hx, hb, hml, hown, hts0⟩ (c_X8_tells_c0 l D kA ly n hn A o a1 S1 _) (va_cwSU 1 hts0 (good_pre gX0_tells_X8_tells_s23 (fun w h => wz_in (List.mem_append_right _ (List.mem_append_left _ h))) (wz_goodIn (fun w h => List.mem_cons_of_mem _ h) (List.mem_append_right _ (List.mem_append_right _ (List.mem_append_right _ (List.mem_append_right _ (List.mem_append_right _ (List.mem_append_right _ (List.mem_append_right _ (List.mem_append_right _ (List.mem_append_right _ (List.mem_append_right _ (List.mem_append_right _ (List.mem_append_right _ (List.mem_append_left _ List.mem_cons_self))))))))))))))) rfl rfl rfl (by decide +kernel) ⟨(Nat.le_of_ble_eq_true rfl), (Nat.le_of_ble_eq_true rfl)⟩) ⟨k_blind, (k_recv hK hH hs2.2.1 (Ec_th hs2) rfl), k_pre hK hN hH hw⟩ rfl rfl hl.1 rfl (lv_room (Nat.le_of_ble_eq_true rfl)) dX0_tells_11 ⟨Nat.le_refl _, Nat.le_refl _⟩) hH (fun r4 S3 H locs hw hH => ?_)
  refine lv_aload_n hx hb dX0_tells_14 rfl (lv_at hl 0 rfl) ?_
  refine lv_aload_n hx hb dX0_tells_15 rfl (lv_at hl 0 rfl) ?_
  obtain ⟨hs5, hw⟩ := hw
  refine k_get (ci := 0) (C := RX0) (T := TX0) (N := 3) hx hb hts hiX0 hown hK hH hs5.2.1 (Ec_th hs5) rfl 0 (by decide) lk2 (fun x h => u_same lk3 x h) rfl dX0_tells_16 ?_
  refine k_afti (va_runU (As := [.int (gI S3 o 0)]) (rest := [.int r4]) ⟨hx, hb, hml, hown, hts0⟩ (c_X8_shares_c0 l D kA ly n hn A o (gI S3 o 0) S3 _) (va_cwU 1 hts0 (good_pre gX0_tells_X8_shares_u30X0 (fun w h => wz_in (List.mem_append_right _ (List.mem_append_left _ h))) (wz_goodIn (fun w h => List.mem_cons_of_mem _ h) (List.mem_append_right _ (List.mem_append_right _ (List.mem_append_right _ (List.mem_append_right _ (List.mem_append_right _ (List.mem_append_right _ (List.mem_append_right _ (List.mem_append_right _ (List.mem_append_right _ (List.mem_append_right _ (List.mem_append_right _ (List.mem_append_left _ List.mem_cons_self)))))))))))))) rfl rfl rfl rfl (by decide +kernel) ⟨(Nat.le_of_ble_eq_true rfl), (Nat.le_of_ble_eq_true rfl)⟩) ⟨k_blind, (k_recv hK hH hs5.2.1 (Ec_th hs5) rfl), k_pre hK hN hH hw⟩ rfl rfl hl.1 rfl (lv_room (Nat.le_of_ble_eq_true rfl)) dX0_tells_19 ⟨Nat.le_refl _, Nat.le_refl _⟩) hH (fun r7 S6 H locs hw hH => ?_)
  refine lv_iadd hx hb dX0_tells_22 ?_
  exact k_iret hx hb hr hlocks hK hN hH hw dX0_tells_23
def wp_X8_shows_c5 (n : List Nat) (o : Nat) (a1 : Int32) (S : St) (Q : Int32 → St → Prop) : Prop := (isTh n S 5 o ∧ wp_X9_begin (10 : Int32) S (fun S1 => (isTh n S1 5 o ∧ Q (a1 + (gI S1 o 0)) S1)))
set_option maxHeartbeats 4000000 in
set_option maxRecDepth 100000 in
theorem c_X8_shows_c5 (l : Launch) (D : va_G) (kA : Nat → ClassId) (ly : Nat → Nat) (n : List Nat) (hn : ∀ c, c < 59 → c ∈ n) (A : Nat → Prop) (o : Nat) (a1 : Int32) : Ci l yX8_shows (wz yX8_shows cX8_shows 2 (some .int)) 1 21 (Gp D (Ec kA ly) ly n A kA) A [.ref (ly o), .int a1] (wp_X8_shows_c5 n o a1) := by
  intro S Q
  refine Met.ofW (cc := cX8_shows) (maxL := 2) (ret := (some .int)) (by decide) rfl ?_
  intro p e s m args below meth c s₁ B hml hv
  obtain ⟨rfl, ⟨hP, hD, hK, hN⟩, hw⟩ := hv
  have hx := B.exec
  have hb := B.bytes
  have hr := B.returns
  have hts0 := atoms_spec (ws := (wz yX8_shows cX8_shows 2 (some .int))) B.pre
  have hts : ∀ w ∈ wsX8_shows, w.before _ s = true := fun w h => hts0 w (wz_in (List.mem_append_right _ (List.mem_append_right _ (List.mem_append_right _ (List.mem_append_right _ (List.mem_append_right _ (List.mem_append_right _ (List.mem_append_right _ (List.mem_append_right _ (List.mem_append_right _ (List.mem_append_left _ h)))))))))))
  have hown : s.vm.findClass RX8 = some m.cls := findClass_of_methodNamed B.named
  have hlocks := B.notSynchronized
  have hH : Hp D (Ec kA ly) ly n A s.heap S s.heap [] := ⟨hP, hD, va_S.rf⟩
  have hiX5 : ∀ w ∈ u_ws RX5 TX5 3, w ∈ wsX8_shows := by decide +kernel
  have lk0 := hts (.fieldLink RX8 16 "SlowPanes$Thing" "trace" "LSlowPanes$Trace;") (by decide +kernel)
  have lk1 := hts (.fieldLink RX8 7 "SlowPanes$Thing" "n" "I") (by decide +kernel)
  have hl := lv_entry ([.ref (ly o), .int a1]) (n := 2) (Nat.le_of_ble_eq_true rfl)
  rw [lg_entry_eq]
  generalize (lg_sl ([.ref (ly o), .int a1]) ++ List.replicate (2 - (lg_sl ([.ref (ly o), .int a1])).length) Slot.unset).toArray = ls at hl ⊢
  have hl : lv_has ls 2 [(0, .ref (ly o)), (1, .int a1)] := hl
  rw [wp_X8_shows_c5] at hw
  obtain ⟨ho, hw⟩ := hw
  refine lv_aload_n hx hb dX8_shows_0 rfl (lv_at hl 0 rfl) ?_
  refine k_get (ci := 5) (C := RX5) (T := TX5) (N := 3) hx hb hts hiX5 hown hK hH ho.2.1 (Ec_th ho) rfl 2 (by decide) lk0 (fun _ h => h) rfl dX8_shows_1 ?_
  refine lv_bipush (v := 10) hx hb dX8_shows_4 (by decide +kernel) ?_
  refine k_aftv (va_runV (As := [.int (10 : Int32)]) (rest := []) ⟨hx, hb, hml, hown, hts⟩ (c_X9_begin l D kA ly n hn A (10 : Int32) S _) (cwV 1 hts gX8_shows_X9_begin rfl rfl rfl (by decide +kernel) ⟨(Nat.le_of_ble_eq_true rfl), (Nat.le_of_ble_eq_true rfl)⟩) ⟨k_blind, (k_recv hK hH (lt_n hn (by decide)) Ec_7 rfl), k_pre hK hN hH hw⟩ rfl rfl hl.1 rfl (lv_room (Nat.le_of_ble_eq_true rfl)) dX8_shows_6 ⟨Nat.le_refl _, Nat.le_refl _⟩) hH (fun S1 H locs hw hH => ?_)
  refine lv_iload_n hx hb dX8_shows_9 rfl (lv_at hl 1 rfl) ?_
  refine lv_aload_n hx hb dX8_shows_10 rfl (lv_at hl 0 rfl) ?_
  obtain ⟨hs2, hw⟩ := hw
  refine k_get (ci := 5) (C := RX5) (T := TX5) (N := 3) hx hb hts hiX5 hown hK hH hs2.2.1 (Ec_th hs2) rfl 0 (by decide) lk1 (fun _ h => h) rfl dX8_shows_11 ?_
  refine lv_iadd hx hb dX8_shows_14 ?_
  exact k_iret hx hb hr hlocks hK hN hH hw dX8_shows_15
def wp_X0_shows_c5 (n : List Nat) (o : Nat) (a1 : Int32) (S : St) (Q : Int32 → St → Prop) : Prop := (isTh n S 5 o ∧ wp_X9_begin (30 : Int32) S (fun S1 => (isTh n S1 5 o ∧ wp_X8_shows_c5 n o a1 S1 (fun r4 S3 => Q (r4 * (3 : Int32)) S3))))
set_option maxHeartbeats 4000000 in
set_option maxRecDepth 100000 in
theorem c_X0_shows_c5 (l : Launch) (D : va_G) (kA : Nat → ClassId) (ly : Nat → Nat) (n : List Nat) (hn : ∀ c, c < 59 → c ∈ n) (A : Nat → Prop) (o : Nat) (a1 : Int32) : Ci l yX0_shows (wz yX0_shows cX0_shows 2 (some .int)) 2 42 (Gp D (Ec kA ly) ly n A kA) A [.ref (ly o), .int a1] (wp_X0_shows_c5 n o a1) := by
  intro S Q
  refine Met.ofW (cc := cX0_shows) (maxL := 2) (ret := (some .int)) (by decide) rfl ?_
  intro p e s m args below meth c s₁ B hml hv
  obtain ⟨rfl, ⟨hP, hD, hK, hN⟩, hw⟩ := hv
  have hx := B.exec
  have hb := B.bytes
  have hr := B.returns
  have hts0 := atoms_spec (ws := (wz yX0_shows cX0_shows 2 (some .int))) B.pre
  have hts : ∀ w ∈ wsX0_shows, w.before _ s = true := fun w h => hts0 w (wz_in (List.mem_append_left _ h))
  have hown : s.vm.findClass RX0 = some m.cls := findClass_of_methodNamed B.named
  have hlocks := B.notSynchronized
  have hH : Hp D (Ec kA ly) ly n A s.heap S s.heap [] := ⟨hP, hD, va_S.rf⟩
  have hiX5 : ∀ w ∈ u_ws RX5 TX5 3, w ∈ wsX0_shows := by decide +kernel
  have lk0 := hts (.fieldLink RX0 7 "SlowPanes$DarkThing" "trace" "LSlowPanes$Trace;") (by decide +kernel)
  have lk1 := hts (.sameField "SlowPanes$DarkThing" "SlowPanes$Thing" "trace" "LSlowPanes$Trace;") (by decide +kernel)
  have hl := lv_entry ([.ref (ly o), .int a1]) (n := 2) (Nat.le_of_ble_eq_true rfl)
  rw [lg_entry_eq]
  generalize (lg_sl ([.ref (ly o), .int a1]) ++ List.replicate (2 - (lg_sl ([.ref (ly o), .int a1])).length) Slot.unset).toArray = ls at hl ⊢
  have hl : lv_has ls 2 [(0, .ref (ly o)), (1, .int a1)] := hl
  rw [wp_X0_shows_c5] at hw
  obtain ⟨ho, hw⟩ := hw
  refine lv_aload_n hx hb dX0_shows_0 rfl (lv_at hl 0 rfl) ?_
  refine k_get (ci := 5) (C := RX5) (T := TX5) (N := 3) hx hb hts hiX5 hown hK hH ho.2.1 (Ec_th ho) rfl 2 (by decide) lk0 (fun x h => u_same lk1 x h) rfl dX0_shows_1 ?_
  refine lv_bipush (v := 30) hx hb dX0_shows_4 (by decide +kernel) ?_
  refine k_aftv (va_runV (As := [.int (30 : Int32)]) (rest := []) ⟨hx, hb, hml, hown, hts⟩ (c_X9_begin l D kA ly n hn A (30 : Int32) S _) (cwV 1 hts gX0_shows_X9_begin rfl rfl rfl (by decide +kernel) ⟨(Nat.le_of_ble_eq_true rfl), (Nat.le_of_ble_eq_true rfl)⟩) ⟨k_blind, (k_recv hK hH (lt_n hn (by decide)) Ec_7 rfl), k_pre hK hN hH hw⟩ rfl rfl hl.1 rfl (lv_room (Nat.le_of_ble_eq_true rfl)) dX0_shows_6 ⟨Nat.le_refl _, Nat.le_refl _⟩) hH (fun S1 H locs hw hH => ?_)
  refine lv_aload_n hx hb dX0_shows_9 rfl (lv_at hl 0 rfl) ?_
  refine lv_iload_n hx hb dX0_shows_10 rfl (lv_at hl 1 rfl) ?_
  obtain ⟨hs2, hw⟩ := hw
  refine k_afti (va_runSU (As := [.int a1]) (rest := []) (hK.1 5 _ rfl).2 ⟨hx, hb, hml, hown, hts0⟩ (c_X8_shows_c5 l D kA ly n hn A o a1 S1 _) (va_cwSU 1 hts0 (good_pre gX0_shows_X8_shows_s19 (fun w h => wz_in (List.mem_append_left _ h)) (wz_goodIn (fun w h => List.mem_cons_of_mem _ h) (List.mem_append_right _ (List.mem_append_right _ (List.mem_append_right _ (List.mem_append_right _ (List.mem_append_right _ (List.mem_append_right _ (List.mem_append_right _ (List.mem_append_right _ (List.mem_append_right _ (List.mem_append_left _ List.mem_cons_self)))))))))))) rfl rfl rfl (by decide +kernel) ⟨(Nat.le_of_ble_eq_true rfl), (Nat.le_of_ble_eq_true rfl)⟩) ⟨k_blind, (k_recv hK hH hs2.2.1 (Ec_th hs2) rfl), k_pre hK hN hH hw⟩ rfl rfl hl.1 rfl (lv_room (Nat.le_of_ble_eq_true rfl)) dX0_shows_11 ⟨Nat.le_refl _, Nat.le_refl _⟩) hH (fun r4 S3 H locs hw hH => ?_)
  refine lv_iconst (v := 3) hx hb dX0_shows_14 (by decide +kernel) ?_
  refine lv_imul hx hb dX0_shows_15 ?_
  exact k_iret hx hb hr hlocks hK hN hH hw dX0_shows_16
def wp_X5_shows_c5 (n : List Nat) (o : Nat) (a1 : Int32) (S : St) (Q : Int32 → St → Prop) : Prop := (isTh n S 5 o ∧ wp_X9_begin (40 : Int32) S (fun S1 => (isTh n S1 5 o ∧ wp_X0_shows_c5 n o a1 S1 (fun r4 S3 => Q ((0 : Int32) - r4) S3))))
set_option maxHeartbeats 4000000 in
set_option maxRecDepth 100000 in
theorem c_X5_shows_c5 (l : Launch) (D : va_G) (kA : Nat → ClassId) (ly : Nat → Nat) (n : List Nat) (hn : ∀ c, c < 59 → c ∈ n) (A : Nat → Prop) (o : Nat) (a1 : Int32) : Ci l yX5_shows (wz yX5_shows cX5_shows 2 (some .int)) 3 63 (Gp D (Ec kA ly) ly n A kA) A [.ref (ly o), .int a1] (wp_X5_shows_c5 n o a1) := by
  intro S Q
  refine Met.ofW (cc := cX5_shows) (maxL := 2) (ret := (some .int)) (by decide) rfl ?_
  intro p e s m args below meth c s₁ B hml hv
  obtain ⟨rfl, ⟨hP, hD, hK, hN⟩, hw⟩ := hv
  have hx := B.exec
  have hb := B.bytes
  have hr := B.returns
  have hts0 := atoms_spec (ws := (wz yX5_shows cX5_shows 2 (some .int))) B.pre
  have hts : ∀ w ∈ wsX5_shows, w.before _ s = true := fun w h => hts0 w (wz_in (List.mem_append_right _ (List.mem_append_right _ (List.mem_append_right _ (List.mem_append_right _ (List.mem_append_right _ (List.mem_append_right _ (List.mem_append_left _ h))))))))
  have hown : s.vm.findClass RX5 = some m.cls := findClass_of_methodNamed B.named
  have hlocks := B.notSynchronized
  have hH : Hp D (Ec kA ly) ly n A s.heap S s.heap [] := ⟨hP, hD, va_S.rf⟩
  have hiX5 : ∀ w ∈ u_ws RX5 TX5 3, w ∈ wsX5_shows := by decide +kernel
  have lk0 := hts (.fieldLink RX5 7 "SlowPanes$RippledThing" "trace" "LSlowPanes$Trace;") (by decide +kernel)
  have lk1 := hts (.sameField "SlowPanes$RippledThing" "SlowPanes$Thing" "trace" "LSlowPanes$Trace;") (by decide +kernel)
  have hl := lv_entry ([.ref (ly o), .int a1]) (n := 2) (Nat.le_of_ble_eq_true rfl)
  rw [lg_entry_eq]
  generalize (lg_sl ([.ref (ly o), .int a1]) ++ List.replicate (2 - (lg_sl ([.ref (ly o), .int a1])).length) Slot.unset).toArray = ls at hl ⊢
  have hl : lv_has ls 2 [(0, .ref (ly o)), (1, .int a1)] := hl
  rw [wp_X5_shows_c5] at hw
  obtain ⟨ho, hw⟩ := hw
  refine lv_aload_n hx hb dX5_shows_0 rfl (lv_at hl 0 rfl) ?_
  refine k_get (ci := 5) (C := RX5) (T := TX5) (N := 3) hx hb hts hiX5 hown hK hH ho.2.1 (Ec_th ho) rfl 2 (by decide) lk0 (fun x h => u_same lk1 x h) rfl dX5_shows_1 ?_
  refine lv_bipush (v := 40) hx hb dX5_shows_4 (by decide +kernel) ?_
  refine k_aftv (va_runV (As := [.int (40 : Int32)]) (rest := []) ⟨hx, hb, hml, hown, hts⟩ (c_X9_begin l D kA ly n hn A (40 : Int32) S _) (cwV 1 hts gX5_shows_X9_begin rfl rfl rfl (by decide +kernel) ⟨(Nat.le_of_ble_eq_true rfl), (Nat.le_of_ble_eq_true rfl)⟩) ⟨k_blind, (k_recv hK hH (lt_n hn (by decide)) Ec_7 rfl), k_pre hK hN hH hw⟩ rfl rfl hl.1 rfl (lv_room (Nat.le_of_ble_eq_true rfl)) dX5_shows_6 ⟨Nat.le_refl _, Nat.le_refl _⟩) hH (fun S1 H locs hw hH => ?_)
  refine lv_iconst (v := 0) hx hb dX5_shows_9 (by decide +kernel) ?_
  refine lv_aload_n hx hb dX5_shows_10 rfl (lv_at hl 0 rfl) ?_
  refine lv_iload_n hx hb dX5_shows_11 rfl (lv_at hl 1 rfl) ?_
  obtain ⟨hs2, hw⟩ := hw
  refine k_afti (va_runSU (As := [.int a1]) (rest := [.int (0 : Int32)]) (hK.1 5 _ rfl).2 ⟨hx, hb, hml, hown, hts0⟩ (c_X0_shows_c5 l D kA ly n hn A o a1 S1 _) (va_cwSU 1 hts0 (good_pre gX5_shows_X0_shows_s19 (fun w h => wz_in (List.mem_append_right _ (List.mem_append_right _ (List.mem_append_right _ (List.mem_append_right _ (List.mem_append_right _ (List.mem_append_right _ (List.mem_append_left _ h)))))))) (wz_goodIn (fun w h => List.mem_cons_of_mem _ h) (List.mem_append_left _ List.mem_cons_self))) rfl rfl rfl (by decide +kernel) ⟨(Nat.le_of_ble_eq_true rfl), (Nat.le_of_ble_eq_true rfl)⟩) ⟨k_blind, (k_recv hK hH hs2.2.1 (Ec_th hs2) rfl), k_pre hK hN hH hw⟩ rfl rfl hl.1 rfl (lv_room (Nat.le_of_ble_eq_true rfl)) dX5_shows_12 ⟨Nat.le_refl _, Nat.le_refl _⟩) hH (fun r4 S3 H locs hw hH => ?_)
  refine lv_isub hx hb dX5_shows_15 ?_
  exact k_iret hx hb hr hlocks hK hN hH hw dX5_shows_16
def wp_X8_moves_c5 (n : List Nat) (o : Nat) (a1 : Int32) (S : St) (Q : Int32 → St → Prop) : Prop := (isTh n S 5 o ∧ wp_X9_begin (11 : Int32) S (fun S1 => (isTh n S1 5 o ∧ wp_X5_shows_c5 n o a1 S1 (fun r4 S3 => Q (r4 * (2 : Int32)) S3))))
set_option maxHeartbeats 4000000 in
set_option maxRecDepth 100000 in
theorem c_X8_moves_c5 (l : Launch) (D : va_G) (kA : Nat → ClassId) (ly : Nat → Nat) (n : List Nat) (hn : ∀ c, c < 59 → c ∈ n) (A : Nat → Prop) (o : Nat) (a1 : Int32) : Ci l yX8_moves (wz yX8_moves cX8_moves 2 (some .int)) 4 84 (Gp D (Ec kA ly) ly n A kA) A [.ref (ly o), .int a1] (wp_X8_moves_c5 n o a1) := by
  intro S Q
  refine Met.ofW (cc := cX8_moves) (maxL := 2) (ret := (some .int)) (by decide) rfl ?_
  intro p e s m args below meth c s₁ B hml hv
  obtain ⟨rfl, ⟨hP, hD, hK, hN⟩, hw⟩ := hv
  have hx := B.exec
  have hb := B.bytes
  have hr := B.returns
  have hts0 := atoms_spec (ws := (wz yX8_moves cX8_moves 2 (some .int))) B.pre
  have hts : ∀ w ∈ wsX8_moves, w.before _ s = true := fun w h => hts0 w (wz_in (List.mem_append_right _ (List.mem_append_right _ (List.mem_append_right _ (List.mem_append_right _ (List.mem_append_right _ (List.mem_append_right _ (List.mem_append_right _ (List.mem_append_right _ (List.mem_append_right _ (List.mem_append_right _ (List.mem_append_left _ h))))))))))))
  have hown : s.vm.findClass RX8 = some m.cls := findClass_of_methodNamed B.named
  have hlocks := B.notSynchronized
  have hH : Hp D (Ec kA ly) ly n A s.heap S s.heap [] := ⟨hP, hD, va_S.rf⟩
  have hiX5 : ∀ w ∈ u_ws RX5 TX5 3, w ∈ wsX8_moves := by decide +kernel
  have lk0 := hts (.fieldLink RX8 16 "SlowPanes$Thing" "trace" "LSlowPanes$Trace;") (by decide +kernel)
  have hl := lv_entry ([.ref (ly o), .int a1]) (n := 2) (Nat.le_of_ble_eq_true rfl)
  rw [lg_entry_eq]
  generalize (lg_sl ([.ref (ly o), .int a1]) ++ List.replicate (2 - (lg_sl ([.ref (ly o), .int a1])).length) Slot.unset).toArray = ls at hl ⊢
  have hl : lv_has ls 2 [(0, .ref (ly o)), (1, .int a1)] := hl
  rw [wp_X8_moves_c5] at hw
  obtain ⟨ho, hw⟩ := hw
  refine lv_aload_n hx hb dX8_moves_0 rfl (lv_at hl 0 rfl) ?_
  refine k_get (ci := 5) (C := RX5) (T := TX5) (N := 3) hx hb hts hiX5 hown hK hH ho.2.1 (Ec_th ho) rfl 2 (by decide) lk0 (fun _ h => h) rfl dX8_moves_1 ?_
  refine lv_bipush (v := 11) hx hb dX8_moves_4 (by decide +kernel) ?_
  refine k_aftv (va_runV (As := [.int (11 : Int32)]) (rest := []) ⟨hx, hb, hml, hown, hts⟩ (c_X9_begin l D kA ly n hn A (11 : Int32) S _) (cwV 1 hts gX8_moves_X9_begin rfl rfl rfl (by decide +kernel) ⟨(Nat.le_of_ble_eq_true rfl), (Nat.le_of_ble_eq_true rfl)⟩) ⟨k_blind, (k_recv hK hH (lt_n hn (by decide)) Ec_7 rfl), k_pre hK hN hH hw⟩ rfl rfl hl.1 rfl (lv_room (Nat.le_of_ble_eq_true rfl)) dX8_moves_6 ⟨Nat.le_refl _, Nat.le_refl _⟩) hH (fun S1 H locs hw hH => ?_)
  refine lv_aload_n hx hb dX8_moves_9 rfl (lv_at hl 0 rfl) ?_
  refine lv_iload_n hx hb dX8_moves_10 rfl (lv_at hl 1 rfl) ?_
  obtain ⟨hs2, hw⟩ := hw
  refine k_afti (va_runU (As := [.int a1]) (rest := []) ⟨hx, hb, hml, hown, hts0⟩ (c_X5_shows_c5 l D kA ly n hn A o a1 S1 _) (va_cwO 1 hts0 (good_pre gX8_moves_X5_shows_u26X5 (fun w h => wz_in (List.mem_append_right _ (List.mem_append_right _ (List.mem_append_right _ (List.mem_append_right _ (List.mem_append_right _ (List.mem_append_right _ (List.mem_append_right _ (List.mem_append_right _ (List.mem_append_right _ (List.mem_append_right _ (List.mem_append_left _ h)))))))))))) (wz_goodIn (fun w h => List.mem_cons_of_mem _ h) (List.mem_append_right _ (List.mem_append_right _ (List.mem_append_right _ (List.mem_append_right _ (List.mem_append_right _ (List.mem_append_right _ (List.mem_append_left _ List.mem_cons_self))))))))) rfl rfl rfl (show Cond.code yX8_shows cX8_shows 2 (some .int) ∈ _ from (wz_in (List.mem_append_right _ (List.mem_append_right _ (List.mem_append_right _ (List.mem_append_right _ (List.mem_append_right _ (List.mem_append_right _ (List.mem_append_right _ (List.mem_append_right _ (List.mem_append_right _ (List.mem_append_left _ List.mem_cons_self)))))))))))) (by decide +kernel) ⟨(Nat.le_of_ble_eq_true rfl), (Nat.le_of_ble_eq_true rfl)⟩) ⟨k_blind, (k_recv hK hH hs2.2.1 (Ec_th hs2) rfl), k_pre hK hN hH hw⟩ rfl rfl hl.1 rfl (lv_room (Nat.le_of_ble_eq_true rfl)) dX8_moves_11 ⟨Nat.le_refl _, Nat.le_refl _⟩) hH (fun r4 S3 H locs hw hH => ?_)
  refine lv_iconst (v := 2) hx hb dX8_moves_14 (by decide +kernel) ?_
  refine lv_imul hx hb dX8_moves_15 ?_
  exact k_iret hx hb hr hlocks hK hN hH hw dX8_moves_16
def wp_X5_moves_c5 (n : List Nat) (o : Nat) (a1 : Int32) (S : St) (Q : Int32 → St → Prop) : Prop := (isTh n S 5 o ∧ wp_X9_begin (41 : Int32) S (fun S1 => (isTh n S1 5 o ∧ wp_X8_moves_c5 n o a1 S1 (fun r4 S3 => (isTh n S3 5 o ∧ wp_X5_shows_c5 n o (gI S3 o 0) S3 (fun r7 S6 => Q (r4 + r7) S6))))))
set_option maxHeartbeats 4000000 in
set_option maxRecDepth 100000 in
theorem c_X5_moves_c5 (l : Launch) (D : va_G) (kA : Nat → ClassId) (ly : Nat → Nat) (n : List Nat) (hn : ∀ c, c < 59 → c ∈ n) (A : Nat → Prop) (o : Nat) (a1 : Int32) : Ci l yX5_moves (wz yX5_moves cX5_moves 2 (some .int)) 5 105 (Gp D (Ec kA ly) ly n A kA) A [.ref (ly o), .int a1] (wp_X5_moves_c5 n o a1) := by
  intro S Q
  refine Met.ofW (cc := cX5_moves) (maxL := 2) (ret := (some .int)) (by decide) rfl ?_
  intro p e s m args below meth c s₁ B hml hv
  obtain ⟨rfl, ⟨hP, hD, hK, hN⟩, hw⟩ := hv
  have hx := B.exec
  have hb := B.bytes
  have hr := B.returns
  have hts0 := atoms_spec (ws := (wz yX5_moves cX5_moves 2 (some .int))) B.pre
  have hts : ∀ w ∈ wsX5_moves, w.before _ s = true := fun w h => hts0 w (wz_in (List.mem_append_right _ (List.mem_append_right _ (List.mem_append_right _ (List.mem_append_right _ (List.mem_append_right _ (List.mem_append_right _ (List.mem_append_right _ (List.mem_append_left _ h)))))))))
  have hown : s.vm.findClass RX5 = some m.cls := findClass_of_methodNamed B.named
  have hlocks := B.notSynchronized
  have hH : Hp D (Ec kA ly) ly n A s.heap S s.heap [] := ⟨hP, hD, va_S.rf⟩
  have hiX5 : ∀ w ∈ u_ws RX5 TX5 3, w ∈ wsX5_moves := by decide +kernel
  have lk0 := hts (.fieldLink RX5 7 "SlowPanes$RippledThing" "trace" "LSlowPanes$Trace;") (by decide +kernel)
  have lk1 := hts (.sameField "SlowPanes$RippledThing" "SlowPanes$Thing" "trace" "LSlowPanes$Trace;") (by decide +kernel)
  have lk2 := hts (.fieldLink RX5 26 "SlowPanes$RippledThing" "n" "I") (by decide +kernel)
  have lk3 := hts (.sameField "SlowPanes$RippledThing" "SlowPanes$Thing" "n" "I") (by decide +kernel)
  have hl := lv_entry ([.ref (ly o), .int a1]) (n := 2) (Nat.le_of_ble_eq_true rfl)
  rw [lg_entry_eq]
  generalize (lg_sl ([.ref (ly o), .int a1]) ++ List.replicate (2 - (lg_sl ([.ref (ly o), .int a1])).length) Slot.unset).toArray = ls at hl ⊢
  have hl : lv_has ls 2 [(0, .ref (ly o)), (1, .int a1)] := hl
  rw [wp_X5_moves_c5] at hw
  obtain ⟨ho, hw⟩ := hw
  refine lv_aload_n hx hb dX5_moves_0 rfl (lv_at hl 0 rfl) ?_
  refine k_get (ci := 5) (C := RX5) (T := TX5) (N := 3) hx hb hts hiX5 hown hK hH ho.2.1 (Ec_th ho) rfl 2 (by decide) lk0 (fun x h => u_same lk1 x h) rfl dX5_moves_1 ?_
  refine lv_bipush (v := 41) hx hb dX5_moves_4 (by decide +kernel) ?_
  refine k_aftv (va_runV (As := [.int (41 : Int32)]) (rest := []) ⟨hx, hb, hml, hown, hts⟩ (c_X9_begin l D kA ly n hn A (41 : Int32) S _) (cwV 1 hts gX5_moves_X9_begin rfl rfl rfl (by decide +kernel) ⟨(Nat.le_of_ble_eq_true rfl), (Nat.le_of_ble_eq_true rfl)⟩) ⟨k_blind, (k_recv hK hH (lt_n hn (by decide)) Ec_7 rfl), k_pre hK hN hH hw⟩ rfl rfl hl.1 rfl (lv_room (Nat.le_of_ble_eq_true rfl)) dX5_moves_6 ⟨Nat.le_refl _, Nat.le_refl _⟩) hH (fun S1 H locs hw hH => ?_)
  refine lv_aload_n hx hb dX5_moves_9 rfl (lv_at hl 0 rfl) ?_
  refine lv_iload_n hx hb dX5_moves_10 rfl (lv_at hl 1 rfl) ?_
  obtain ⟨hs2, hw⟩ := hw
  refine k_afti (runSX (n := 1) (x := ⟨RX0, "moves", "(I)I"⟩) (As := [.int a1]) (rest := []) (hK.1 5 _ rfl).2 ⟨hx, hb, hml, hown, hts0⟩ (c_X8_moves_c5 l D kA ly n hn A o a1 S1 _) rfl (wz_goodIn (fun w h => List.mem_cons_of_mem _ h) (List.mem_append_right _ (List.mem_append_right _ (List.mem_append_right _ (List.mem_append_right _ (List.mem_append_right _ (List.mem_append_right _ (List.mem_append_right _ (List.mem_append_right _ (List.mem_append_right _ (List.mem_append_right _ (List.mem_append_left _ List.mem_cons_self)))))))))))) rfl rfl ⟨(Nat.le_of_ble_eq_true rfl), (Nat.le_of_ble_eq_true rfl)⟩ (hts0 (.methodLink RX5 23 ⟨RX0, "moves", "(I)I"⟩) (wz_inE (by decide +kernel))) (hts0 (.sameMethod RX0 RX8 "moves" "(I)I") (wz_inE (by decide +kernel))) (hts0 (.superclass RX5 RX0) (wz_inE (by decide +kernel))) (hts0 (.superclass RX0 RX8) (wz_inE (by decide +kernel))) (hts0 (.instanceMethod yX8_moves) (wz_inE (by decide +kernel))) (hts0 (.initialized RX8) (wz_inE (by decide +kernel))) rfl (by decide +kernel) ⟨k_blind, (k_recv hK hH hs2.2.1 (Ec_th hs2) rfl), k_pre hK hN hH hw⟩ rfl rfl hl.1 rfl (lv_room (Nat.le_of_ble_eq_true rfl)) dX5_moves_11 ⟨Nat.le_refl _, Nat.le_refl _⟩) hH (fun r4 S3 H locs hw hH => ?_)
  refine lv_aload_n hx hb dX5_moves_14 rfl (lv_at hl 0 rfl) ?_
  refine lv_aload_n hx hb dX5_moves_15 rfl (lv_at hl 0 rfl) ?_
  obtain ⟨hs5, hw⟩ := hw
  refine k_get (ci := 5) (C := RX5) (T := TX5) (N := 3) hx hb hts hiX5 hown hK hH hs5.2.1 (Ec_th hs5) rfl 0 (by decide) lk2 (fun x h => u_same lk3 x h) rfl dX5_moves_16 ?_
  refine k_afti (va_runV (As := [.int (gI S3 o 0)]) (rest := [.int r4]) ⟨hx, hb, hml, hown, hts0⟩ (c_X5_shows_c5 l D kA ly n hn A o (gI S3 o 0) S3 _) (cwV 1 hts0 (good_pre gX5_moves_X5_shows (fun w h => wz_in (List.mem_append_right _ (List.mem_append_right _ (List.mem_append_right _ (List.mem_append_right _ (List.mem_append_right _ (List.mem_append_right _ (List.mem_append_right _ (List.mem_append_left _ h))))))))) (wz_goodIn (fun w h => List.mem_cons_of_mem _ h) (List.mem_append_right _ (List.mem_append_right _ (List.mem_append_right _ (List.mem_append_right _ (List.mem_append_right _ (List.mem_append_right _ (List.mem_append_left _ List.mem_cons_self))))))))) rfl rfl rfl (by decide +kernel) ⟨(Nat.le_of_ble_eq_true rfl), (Nat.le_of_ble_eq_true rfl)⟩) ⟨k_blind, (k_recv hK hH hs5.2.1 (Ec_th hs5) rfl), k_pre hK hN hH hw⟩ rfl rfl hl.1 rfl (lv_room (Nat.le_of_ble_eq_true rfl)) dX5_moves_19 ⟨Nat.le_refl _, Nat.le_refl _⟩) hH (fun r7 S6 H locs hw hH => ?_)
  refine lv_iadd hx hb dX5_moves_22 ?_
  exact k_iret hx hb hr hlocks hK hN hH hw dX5_moves_23
def wp_X8_shares_c5 (n : List Nat) (o : Nat) (a1 : Int32) (S : St) (Q : Int32 → St → Prop) : Prop := (isTh n S 5 o ∧ wp_X9_begin (12 : Int32) S (fun S1 => (isTh n S1 5 o ∧ wp_X9_part a1 ((gI S1 o 1) - (gI S1 o 0)) S1 (fun r4 S3 => Q r4 S3))))
set_option maxHeartbeats 4000000 in
set_option maxRecDepth 100000 in
theorem c_X8_shares_c5 (l : Launch) (D : va_G) (kA : Nat → ClassId) (ly : Nat → Nat) (n : List Nat) (hn : ∀ c, c < 59 → c ∈ n) (A : Nat → Prop) (o : Nat) (a1 : Int32) : Ci l yX8_shares (wz yX8_shares cX8_shares 2 (some .int)) 1 22 (Gp D (Ec kA ly) ly n A kA) A [.ref (ly o), .int a1] (wp_X8_shares_c5 n o a1) := by
  intro S Q
  refine Met.ofW (cc := cX8_shares) (maxL := 2) (ret := (some .int)) (by decide) rfl ?_
  intro p e s m args below meth c s₁ B hml hv
  obtain ⟨rfl, ⟨hP, hD, hK, hN⟩, hw⟩ := hv
  have hx := B.exec
  have hb := B.bytes
  have hr := B.returns
  have hts0 := atoms_spec (ws := (wz yX8_shares cX8_shares 2 (some .int))) B.pre
  have hts : ∀ w ∈ wsX8_shares, w.before _ s = true := fun w h => hts0 w (wz_in (List.mem_append_right _ (List.mem_append_right _ (List.mem_append_right _ (List.mem_append_right _ (List.mem_append_right _ (List.mem_append_right _ (List.mem_append_right _ (List.mem_append_right _ (List.mem_append_right _ (List.mem_append_right _ (List.mem_append_right _ (List.mem_append_left _ h)))))))))))))
  have hown : s.vm.findClass RX8 = some m.cls := findClass_of_methodNamed B.named
  have hlocks := B.notSynchronized
  have hH : Hp D (Ec kA ly) ly n A s.heap S s.heap [] := ⟨hP, hD, va_S.rf⟩
  have hiX5 : ∀ w ∈ u_ws RX5 TX5 3, w ∈ wsX8_shares := by decide +kernel
  have lk0 := hts (.fieldLink RX8 16 "SlowPanes$Thing" "trace" "LSlowPanes$Trace;") (by decide +kernel)
  have lk1 := hts (.fieldLink RX8 13 "SlowPanes$Thing" "a" "I") (by decide +kernel)
  have lk2 := hts (.fieldLink RX8 7 "SlowPanes$Thing" "n" "I") (by decide +kernel)
  have hl := lv_entry ([.ref (ly o), .int a1]) (n := 2) (Nat.le_of_ble_eq_true rfl)
  rw [lg_entry_eq]
  generalize (lg_sl ([.ref (ly o), .int a1]) ++ List.replicate (2 - (lg_sl ([.ref (ly o), .int a1])).length) Slot.unset).toArray = ls at hl ⊢
  have hl : lv_has ls 2 [(0, .ref (ly o)), (1, .int a1)] := hl
  rw [wp_X8_shares_c5] at hw
  obtain ⟨ho, hw⟩ := hw
  refine lv_aload_n hx hb dX8_shares_0 rfl (lv_at hl 0 rfl) ?_
  refine k_get (ci := 5) (C := RX5) (T := TX5) (N := 3) hx hb hts hiX5 hown hK hH ho.2.1 (Ec_th ho) rfl 2 (by decide) lk0 (fun _ h => h) rfl dX8_shares_1 ?_
  refine lv_bipush (v := 12) hx hb dX8_shares_4 (by decide +kernel) ?_
  refine k_aftv (va_runV (As := [.int (12 : Int32)]) (rest := []) ⟨hx, hb, hml, hown, hts⟩ (c_X9_begin l D kA ly n hn A (12 : Int32) S _) (cwV 1 hts gX8_shares_X9_begin rfl rfl rfl (by decide +kernel) ⟨(Nat.le_of_ble_eq_true rfl), (Nat.le_of_ble_eq_true rfl)⟩) ⟨k_blind, (k_recv hK hH (lt_n hn (by decide)) Ec_7 rfl), k_pre hK hN hH hw⟩ rfl rfl hl.1 rfl (lv_room (Nat.le_of_ble_eq_true rfl)) dX8_shares_6 ⟨Nat.le_refl _, Nat.le_refl _⟩) hH (fun S1 H locs hw hH => ?_)
  refine lv_aload_n hx hb dX8_shares_9 rfl (lv_at hl 0 rfl) ?_
  obtain ⟨hs2, hw⟩ := hw
  refine k_get (ci := 5) (C := RX5) (T := TX5) (N := 3) hx hb hts hiX5 hown hK hH hs2.2.1 (Ec_th hs2) rfl 2 (by decide) lk0 (fun _ h => h) rfl dX8_shares_10 ?_
  refine lv_iload_n hx hb dX8_shares_13 rfl (lv_at hl 1 rfl) ?_
  refine lv_aload_n hx hb dX8_shares_14 rfl (lv_at hl 0 rfl) ?_
  refine k_get (ci := 5) (C := RX5) (T := TX5) (N := 3) hx hb hts hiX5 hown hK hH hs2.2.1 (Ec_th hs2) rfl 1 (by decide) lk1 (fun _ h => h) rfl dX8_shares_15 ?_
  refine lv_aload_n hx hb dX8_shares_18 rfl (lv_at hl 0 rfl) ?_
  refine k_get (ci := 5) (C := RX5) (T := TX5) (N := 3) hx hb hts hiX5 hown hK hH hs2.2.1 (Ec_th hs2) rfl 0 (by decide) lk2 (fun _ h => h) rfl dX8_shares_19 ?_
  refine lv_isub hx hb dX8_shares_22 ?_
  refine k_afti (va_runV (As := [.int a1, .int ((gI S1 o 1) - (gI S1 o 0))]) (rest := []) ⟨hx, hb, hml, hown, hts⟩ (c_X9_part l D kA ly n hn A a1 ((gI S1 o 1) - (gI S1 o 0)) S1 _) (cwV 2 hts gX8_shares_X9_part rfl rfl rfl (by decide +kernel) ⟨(Nat.le_of_ble_eq_true rfl), (Nat.le_of_ble_eq_true rfl)⟩) ⟨k_blind, (k_recv hK hH (lt_n hn (by decide)) Ec_7 rfl), k_pre hK hN hH hw⟩ rfl rfl hl.1 rfl (lv_room (Nat.le_of_ble_eq_true rfl)) dX8_shares_23 ⟨Nat.le_refl _, Nat.le_refl _⟩) hH (fun r4 S3 H locs hw hH => ?_)
  exact k_iret hx hb hr hlocks hK hN hH hw dX8_shares_26
def wp_X8_tells_c5 (n : List Nat) (o : Nat) (a1 : Int32) (S : St) (Q : Int32 → St → Prop) : Prop := (isTh n S 5 o ∧ wp_X9_begin (13 : Int32) S (fun S1 => (isTh n S1 5 o ∧ wp_X5_moves_c5 n o a1 S1 (fun r4 S3 => (isTh n S3 5 o ∧ Q (r4 ^^^ (gI S3 o 1)) S3)))))
set_option maxHeartbeats 4000000 in
set_option maxRecDepth 100000 in
theorem c_X8_tells_c5 (l : Launch) (D : va_G) (kA : Nat → ClassId) (ly : Nat → Nat) (n : List Nat) (hn : ∀ c, c < 59 → c ∈ n) (A : Nat → Prop) (o : Nat) (a1 : Int32) : Ci l yX8_tells (wz yX8_tells cX8_tells 2 (some .int)) 6 126 (Gp D (Ec kA ly) ly n A kA) A [.ref (ly o), .int a1] (wp_X8_tells_c5 n o a1) := by
  intro S Q
  refine Met.ofW (cc := cX8_tells) (maxL := 2) (ret := (some .int)) (by decide) rfl ?_
  intro p e s m args below meth c s₁ B hml hv
  obtain ⟨rfl, ⟨hP, hD, hK, hN⟩, hw⟩ := hv
  have hx := B.exec
  have hb := B.bytes
  have hr := B.returns
  have hts0 := atoms_spec (ws := (wz yX8_tells cX8_tells 2 (some .int))) B.pre
  have hts : ∀ w ∈ wsX8_tells, w.before _ s = true := fun w h => hts0 w (wz_in (List.mem_append_right _ (List.mem_append_right _ (List.mem_append_right _ (List.mem_append_right _ (List.mem_append_right _ (List.mem_append_right _ (List.mem_append_right _ (List.mem_append_right _ (List.mem_append_right _ (List.mem_append_right _ (List.mem_append_right _ (List.mem_append_right _ (List.mem_append_left _ h))))))))))))))
  have hown : s.vm.findClass RX8 = some m.cls := findClass_of_methodNamed B.named
  have hlocks := B.notSynchronized
  have hH : Hp D (Ec kA ly) ly n A s.heap S s.heap [] := ⟨hP, hD, va_S.rf⟩
  have hiX5 : ∀ w ∈ u_ws RX5 TX5 3, w ∈ wsX8_tells := by decide +kernel
  have lk0 := hts (.fieldLink RX8 16 "SlowPanes$Thing" "trace" "LSlowPanes$Trace;") (by decide +kernel)
  have lk1 := hts (.fieldLink RX8 13 "SlowPanes$Thing" "a" "I") (by decide +kernel)
  have hl := lv_entry ([.ref (ly o), .int a1]) (n := 2) (Nat.le_of_ble_eq_true rfl)
  rw [lg_entry_eq]
  generalize (lg_sl ([.ref (ly o), .int a1]) ++ List.replicate (2 - (lg_sl ([.ref (ly o), .int a1])).length) Slot.unset).toArray = ls at hl ⊢
  have hl : lv_has ls 2 [(0, .ref (ly o)), (1, .int a1)] := hl
  rw [wp_X8_tells_c5] at hw
  obtain ⟨ho, hw⟩ := hw
  refine lv_aload_n hx hb dX8_tells_0 rfl (lv_at hl 0 rfl) ?_
  refine k_get (ci := 5) (C := RX5) (T := TX5) (N := 3) hx hb hts hiX5 hown hK hH ho.2.1 (Ec_th ho) rfl 2 (by decide) lk0 (fun _ h => h) rfl dX8_tells_1 ?_
  refine lv_bipush (v := 13) hx hb dX8_tells_4 (by decide +kernel) ?_
  refine k_aftv (va_runV (As := [.int (13 : Int32)]) (rest := []) ⟨hx, hb, hml, hown, hts⟩ (c_X9_begin l D kA ly n hn A (13 : Int32) S _) (cwV 1 hts gX8_tells_X9_begin rfl rfl rfl (by decide +kernel) ⟨(Nat.le_of_ble_eq_true rfl), (Nat.le_of_ble_eq_true rfl)⟩) ⟨k_blind, (k_recv hK hH (lt_n hn (by decide)) Ec_7 rfl), k_pre hK hN hH hw⟩ rfl rfl hl.1 rfl (lv_room (Nat.le_of_ble_eq_true rfl)) dX8_tells_6 ⟨Nat.le_refl _, Nat.le_refl _⟩) hH (fun S1 H locs hw hH => ?_)
  refine lv_aload_n hx hb dX8_tells_9 rfl (lv_at hl 0 rfl) ?_
  refine lv_iload_n hx hb dX8_tells_10 rfl (lv_at hl 1 rfl) ?_
  obtain ⟨hs2, hw⟩ := hw
  refine k_afti (va_runU (As := [.int a1]) (rest := []) ⟨hx, hb, hml, hown, hts0⟩ (c_X5_moves_c5 l D kA ly n hn A o a1 S1 _) (va_cwO 1 hts0 (good_pre gX8_tells_X5_moves_u34X5 (fun w h => wz_in (List.mem_append_right _ (List.mem_append_right _ (List.mem_append_right _ (List.mem_append_right _ (List.mem_append_right _ (List.mem_append_right _ (List.mem_append_right _ (List.mem_append_right _ (List.mem_append_right _ (List.mem_append_right _ (List.mem_append_right _ (List.mem_append_right _ (List.mem_append_left _ h)))))))))))))) (wz_goodIn (fun w h => List.mem_cons_of_mem _ h) (List.mem_append_right _ (List.mem_append_right _ (List.mem_append_right _ (List.mem_append_right _ (List.mem_append_right _ (List.mem_append_right _ (List.mem_append_right _ (List.mem_append_left _ List.mem_cons_self)))))))))) rfl rfl rfl (show Cond.code yX8_moves cX8_moves 2 (some .int) ∈ _ from (wz_in (List.mem_append_right _ (List.mem_append_right _ (List.mem_append_right _ (List.mem_append_right _ (List.mem_append_right _ (List.mem_append_right _ (List.mem_append_right _ (List.mem_append_right _ (List.mem_append_right _ (List.mem_append_right _ (List.mem_append_left _ List.mem_cons_self))))))))))))) (by decide +kernel) ⟨(Nat.le_of_ble_eq_true rfl), (Nat.le_of_ble_eq_true rfl)⟩) ⟨k_blind, (k_recv hK hH hs2.2.1 (Ec_th hs2) rfl), k_pre hK hN hH hw⟩ rfl rfl hl.1 rfl (lv_room (Nat.le_of_ble_eq_true rfl)) dX8_tells_11 ⟨Nat.le_refl _, Nat.le_refl _⟩) hH (fun r4 S3 H locs hw hH => ?_)
  refine lv_aload_n hx hb dX8_tells_14 rfl (lv_at hl 0 rfl) ?_
  obtain ⟨hs5, hw⟩ := hw
  refine k_get (ci := 5) (C := RX5) (T := TX5) (N := 3) hx hb hts hiX5 hown hK hH hs5.2.1 (Ec_th hs5) rfl 1 (by decide) lk1 (fun _ h => h) rfl dX8_tells_15 ?_
  refine lv_ixor hx hb dX8_tells_18 ?_
  exact k_iret hx hb hr hlocks hK hN hH hw dX8_tells_19
def wp_X0_tells_c5 (n : List Nat) (o : Nat) (a1 : Int32) (S : St) (Q : Int32 → St → Prop) : Prop := (isTh n S 5 o ∧ wp_X9_begin (31 : Int32) S (fun S1 => (isTh n S1 5 o ∧ wp_X8_tells_c5 n o a1 S1 (fun r4 S3 => (isTh n S3 5 o ∧ wp_X8_shares_c5 n o (gI S3 o 0) S3 (fun r7 S6 => Q (r4 + r7) S6))))))
set_option maxHeartbeats 4000000 in
set_option maxRecDepth 100000 in
theorem c_X0_tells_c5 (l : Launch) (D : va_G) (kA : Nat → ClassId) (ly : Nat → Nat) (n : List Nat) (hn : ∀ c, c < 59 → c ∈ n) (A : Nat → Prop) (o : Nat) (a1 : Int32) : Ci l yX0_tells (wz yX0_tells cX0_tells 2 (some .int)) 7 147 (Gp D (Ec kA ly) ly n A kA) A [.ref (ly o), .int a1] (wp_X0_tells_c5 n o a1) := by
  intro S Q
  refine Met.ofW (cc := cX0_tells) (maxL := 2) (ret := (some .int)) (by decide) rfl ?_
  intro p e s m args below meth c s₁ B hml hv
  obtain ⟨rfl, ⟨hP, hD, hK, hN⟩, hw⟩ := hv
  have hx := B.exec
  have hb := B.bytes
  have hr := B.returns
  have hts0 := atoms_spec (ws := (wz yX0_tells cX0_tells 2 (some .int))) B.pre
  have hts : ∀ w ∈ wsX0_tells, w.before _ s = true := fun w h => hts0 w (wz_in (List.mem_append_right _ (List.mem_append_left _ h)))
  have hown : s.vm.findClass RX0 = some m.cls := findClass_of_methodNamed B.named
  have hlocks := B.notSynchronized
  have hH : Hp D (Ec kA ly) ly n A s.heap S s.heap [] := ⟨hP, hD, va_S.rf⟩
  have hiX5 : ∀ w ∈ u_ws RX5 TX5 3, w ∈ wsX0_tells := by decide +kernel
  have lk0 := hts (.fieldLink RX0 7 "SlowPanes$DarkThing" "trace" "LSlowPanes$Trace;") (by decide +kernel)
  have lk1 := hts (.sameField "SlowPanes$DarkThing" "SlowPanes$Thing" "trace" "LSlowPanes$Trace;") (by decide +kernel)
  have lk2 := hts (.fieldLink RX0 26 "SlowPanes$DarkThing" "n" "I") (by decide +kernel)
  have lk3 := hts (.sameField "SlowPanes$DarkThing" "SlowPanes$Thing" "n" "I") (by decide +kernel)
  have hl := lv_entry ([.ref (ly o), .int a1]) (n := 2) (Nat.le_of_ble_eq_true rfl)
  rw [lg_entry_eq]
  generalize (lg_sl ([.ref (ly o), .int a1]) ++ List.replicate (2 - (lg_sl ([.ref (ly o), .int a1])).length) Slot.unset).toArray = ls at hl ⊢
  have hl : lv_has ls 2 [(0, .ref (ly o)), (1, .int a1)] := hl
  rw [wp_X0_tells_c5] at hw
  obtain ⟨ho, hw⟩ := hw
  refine lv_aload_n hx hb dX0_tells_0 rfl (lv_at hl 0 rfl) ?_
  refine k_get (ci := 5) (C := RX5) (T := TX5) (N := 3) hx hb hts hiX5 hown hK hH ho.2.1 (Ec_th ho) rfl 2 (by decide) lk0 (fun x h => u_same lk1 x h) rfl dX0_tells_1 ?_
  refine lv_bipush (v := 31) hx hb dX0_tells_4 (by decide +kernel) ?_
  refine k_aftv (va_runV (As := [.int (31 : Int32)]) (rest := []) ⟨hx, hb, hml, hown, hts⟩ (c_X9_begin l D kA ly n hn A (31 : Int32) S _) (cwV 1 hts gX0_tells_X9_begin rfl rfl rfl (by decide +kernel) ⟨(Nat.le_of_ble_eq_true rfl), (Nat.le_of_ble_eq_true rfl)⟩) ⟨k_blind, (k_recv hK hH (lt_n hn (by decide)) Ec_7 rfl), k_pre hK hN hH hw⟩ rfl rfl hl.1 rfl (lv_room (Nat.le_of_ble_eq_true rfl)) dX0_tells_6 ⟨Nat.le_refl _, Nat.le_refl _⟩) hH (fun S1 H locs hw hH => ?_)
  refine lv_aload_n hx hb dX0_tells_9 rfl (lv_at hl 0 rfl) ?_
  refine lv_iload_n hx hb dX0_tells_10 rfl (lv_at hl 1 rfl) ?_
  obtain ⟨hs2, hw⟩ := hw
  refine k_afti (va_runSU (As := [.int a1]) (rest := []) (hK.1 5 _ rfl).2 ⟨hx, hb, hml, hown, hts0⟩ (c_X8_tells_c5 l D kA ly n hn A o a1 S1 _) (va_cwSU 1 hts0 (good_pre gX0_tells_X8_tells_s23 (fun w h => wz_in (List.mem_append_right _ (List.mem_append_left _ h))) (wz_goodIn (fun w h => List.mem_cons_of_mem _ h) (List.mem_append_right _ (List.mem_append_right _ (List.mem_append_right _ (List.mem_append_right _ (List.mem_append_right _ (List.mem_append_right _ (List.mem_append_right _ (List.mem_append_right _ (List.mem_append_right _ (List.mem_append_right _ (List.mem_append_right _ (List.mem_append_right _ (List.mem_append_left _ List.mem_cons_self))))))))))))))) rfl rfl rfl (by decide +kernel) ⟨(Nat.le_of_ble_eq_true rfl), (Nat.le_of_ble_eq_true rfl)⟩) ⟨k_blind, (k_recv hK hH hs2.2.1 (Ec_th hs2) rfl), k_pre hK hN hH hw⟩ rfl rfl hl.1 rfl (lv_room (Nat.le_of_ble_eq_true rfl)) dX0_tells_11 ⟨Nat.le_refl _, Nat.le_refl _⟩) hH (fun r4 S3 H locs hw hH => ?_)
  refine lv_aload_n hx hb dX0_tells_14 rfl (lv_at hl 0 rfl) ?_
  refine lv_aload_n hx hb dX0_tells_15 rfl (lv_at hl 0 rfl) ?_
  obtain ⟨hs5, hw⟩ := hw
  refine k_get (ci := 5) (C := RX5) (T := TX5) (N := 3) hx hb hts hiX5 hown hK hH hs5.2.1 (Ec_th hs5) rfl 0 (by decide) lk2 (fun x h => u_same lk3 x h) rfl dX0_tells_16 ?_
  refine k_afti (va_runU (As := [.int (gI S3 o 0)]) (rest := [.int r4]) ⟨hx, hb, hml, hown, hts0⟩ (c_X8_shares_c5 l D kA ly n hn A o (gI S3 o 0) S3 _) (va_cwU 1 hts0 (good_pre gX0_tells_X8_shares_u30X5 (fun w h => wz_in (List.mem_append_right _ (List.mem_append_left _ h))) (wz_goodIn (fun w h => List.mem_cons_of_mem _ h) (List.mem_append_right _ (List.mem_append_right _ (List.mem_append_right _ (List.mem_append_right _ (List.mem_append_right _ (List.mem_append_right _ (List.mem_append_right _ (List.mem_append_right _ (List.mem_append_right _ (List.mem_append_right _ (List.mem_append_right _ (List.mem_append_left _ List.mem_cons_self)))))))))))))) rfl rfl rfl rfl (by decide +kernel) ⟨(Nat.le_of_ble_eq_true rfl), (Nat.le_of_ble_eq_true rfl)⟩) ⟨k_blind, (k_recv hK hH hs5.2.1 (Ec_th hs5) rfl), k_pre hK hN hH hw⟩ rfl rfl hl.1 rfl (lv_room (Nat.le_of_ble_eq_true rfl)) dX0_tells_19 ⟨Nat.le_refl _, Nat.le_refl _⟩) hH (fun r7 S6 H locs hw hH => ?_)
  refine lv_iadd hx hb dX0_tells_22 ?_
  exact k_iret hx hb hr hlocks hK hN hH hw dX0_tells_23
def wp_X8_shows_c2 (n : List Nat) (o : Nat) (a1 : Int32) (S : St) (Q : Int32 → St → Prop) : Prop := (isTh n S 2 o ∧ wp_X9_begin (10 : Int32) S (fun S1 => (isTh n S1 2 o ∧ Q (a1 + (gI S1 o 0)) S1)))
set_option maxHeartbeats 4000000 in
set_option maxRecDepth 100000 in
theorem c_X8_shows_c2 (l : Launch) (D : va_G) (kA : Nat → ClassId) (ly : Nat → Nat) (n : List Nat) (hn : ∀ c, c < 59 → c ∈ n) (A : Nat → Prop) (o : Nat) (a1 : Int32) : Ci l yX8_shows (wz yX8_shows cX8_shows 2 (some .int)) 1 21 (Gp D (Ec kA ly) ly n A kA) A [.ref (ly o), .int a1] (wp_X8_shows_c2 n o a1) := by
  intro S Q
  refine Met.ofW (cc := cX8_shows) (maxL := 2) (ret := (some .int)) (by decide) rfl ?_
  intro p e s m args below meth c s₁ B hml hv
  obtain ⟨rfl, ⟨hP, hD, hK, hN⟩, hw⟩ := hv
  have hx := B.exec
  have hb := B.bytes
  have hr := B.returns
  have hts0 := atoms_spec (ws := (wz yX8_shows cX8_shows 2 (some .int))) B.pre
  have hts : ∀ w ∈ wsX8_shows, w.before _ s = true := fun w h => hts0 w (wz_in (List.mem_append_right _ (List.mem_append_right _ (List.mem_append_right _ (List.mem_append_right _ (List.mem_append_right _ (List.mem_append_right _ (List.mem_append_right _ (List.mem_append_right _ (List.mem_append_right _ (List.mem_append_left _ h)))))))))))
  have hown : s.vm.findClass RX8 = some m.cls := findClass_of_methodNamed B.named
  have hlocks := B.notSynchronized
  have hH : Hp D (Ec kA ly) ly n A s.heap S s.heap [] := ⟨hP, hD, va_S.rf⟩
  have hiX2 : ∀ w ∈ u_ws RX2 TX2 3, w ∈ wsX8_shows := by decide +kernel
  have lk0 := hts (.fieldLink RX8 16 "SlowPanes$Thing" "trace" "LSlowPanes$Trace;") (by decide +kernel)
  have lk1 := hts (.fieldLink RX8 7 "SlowPanes$Thing" "n" "I") (by decide +kernel)
  have hl := lv_entry ([.ref (ly o), .int a1]) (n := 2) (Nat.le_of_ble_eq_true rfl)
  rw [lg_entry_eq]
  generalize (lg_sl ([.ref (ly o), .int a1]) ++ List.replicate (2 - (lg_sl ([.ref (ly o), .int a1])).length) Slot.unset).toArray = ls at hl ⊢
  have hl : lv_has ls 2 [(0, .ref (ly o)), (1, .int a1)] := hl
  rw [wp_X8_shows_c2] at hw
  obtain ⟨ho, hw⟩ := hw
  refine lv_aload_n hx hb dX8_shows_0 rfl (lv_at hl 0 rfl) ?_
  refine k_get (ci := 2) (C := RX2) (T := TX2) (N := 3) hx hb hts hiX2 hown hK hH ho.2.1 (Ec_th ho) rfl 2 (by decide) lk0 (fun _ h => h) rfl dX8_shows_1 ?_
  refine lv_bipush (v := 10) hx hb dX8_shows_4 (by decide +kernel) ?_
  refine k_aftv (va_runV (As := [.int (10 : Int32)]) (rest := []) ⟨hx, hb, hml, hown, hts⟩ (c_X9_begin l D kA ly n hn A (10 : Int32) S _) (cwV 1 hts gX8_shows_X9_begin rfl rfl rfl (by decide +kernel) ⟨(Nat.le_of_ble_eq_true rfl), (Nat.le_of_ble_eq_true rfl)⟩) ⟨k_blind, (k_recv hK hH (lt_n hn (by decide)) Ec_7 rfl), k_pre hK hN hH hw⟩ rfl rfl hl.1 rfl (lv_room (Nat.le_of_ble_eq_true rfl)) dX8_shows_6 ⟨Nat.le_refl _, Nat.le_refl _⟩) hH (fun S1 H locs hw hH => ?_)
  refine lv_iload_n hx hb dX8_shows_9 rfl (lv_at hl 1 rfl) ?_
  refine lv_aload_n hx hb dX8_shows_10 rfl (lv_at hl 0 rfl) ?_
  obtain ⟨hs2, hw⟩ := hw
  refine k_get (ci := 2) (C := RX2) (T := TX2) (N := 3) hx hb hts hiX2 hown hK hH hs2.2.1 (Ec_th hs2) rfl 0 (by decide) lk1 (fun _ h => h) rfl dX8_shows_11 ?_
  refine lv_iadd hx hb dX8_shows_14 ?_
  exact k_iret hx hb hr hlocks hK hN hH hw dX8_shows_15
def wp_X8_moves_c2 (n : List Nat) (o : Nat) (a1 : Int32) (S : St) (Q : Int32 → St → Prop) : Prop := (isTh n S 2 o ∧ wp_X9_begin (11 : Int32) S (fun S1 => (isTh n S1 2 o ∧ wp_X8_shows_c2 n o a1 S1 (fun r4 S3 => Q (r4 * (2 : Int32)) S3))))
set_option maxHeartbeats 4000000 in
set_option maxRecDepth 100000 in
theorem c_X8_moves_c2 (l : Launch) (D : va_G) (kA : Nat → ClassId) (ly : Nat → Nat) (n : List Nat) (hn : ∀ c, c < 59 → c ∈ n) (A : Nat → Prop) (o : Nat) (a1 : Int32) : Ci l yX8_moves (wz yX8_moves cX8_moves 2 (some .int)) 2 42 (Gp D (Ec kA ly) ly n A kA) A [.ref (ly o), .int a1] (wp_X8_moves_c2 n o a1) := by
  intro S Q
  refine Met.ofW (cc := cX8_moves) (maxL := 2) (ret := (some .int)) (by decide) rfl ?_
  intro p e s m args below meth c s₁ B hml hv
  obtain ⟨rfl, ⟨hP, hD, hK, hN⟩, hw⟩ := hv
  have hx := B.exec
  have hb := B.bytes
  have hr := B.returns
  have hts0 := atoms_spec (ws := (wz yX8_moves cX8_moves 2 (some .int))) B.pre
  have hts : ∀ w ∈ wsX8_moves, w.before _ s = true := fun w h => hts0 w (wz_in (List.mem_append_right _ (List.mem_append_right _ (List.mem_append_right _ (List.mem_append_right _ (List.mem_append_right _ (List.mem_append_right _ (List.mem_append_right _ (List.mem_append_right _ (List.mem_append_right _ (List.mem_append_right _ (List.mem_append_left _ h))))))))))))
  have hown : s.vm.findClass RX8 = some m.cls := findClass_of_methodNamed B.named
  have hlocks := B.notSynchronized
  have hH : Hp D (Ec kA ly) ly n A s.heap S s.heap [] := ⟨hP, hD, va_S.rf⟩
  have hiX2 : ∀ w ∈ u_ws RX2 TX2 3, w ∈ wsX8_moves := by decide +kernel
  have lk0 := hts (.fieldLink RX8 16 "SlowPanes$Thing" "trace" "LSlowPanes$Trace;") (by decide +kernel)
  have hl := lv_entry ([.ref (ly o), .int a1]) (n := 2) (Nat.le_of_ble_eq_true rfl)
  rw [lg_entry_eq]
  generalize (lg_sl ([.ref (ly o), .int a1]) ++ List.replicate (2 - (lg_sl ([.ref (ly o), .int a1])).length) Slot.unset).toArray = ls at hl ⊢
  have hl : lv_has ls 2 [(0, .ref (ly o)), (1, .int a1)] := hl
  rw [wp_X8_moves_c2] at hw
  obtain ⟨ho, hw⟩ := hw
  refine lv_aload_n hx hb dX8_moves_0 rfl (lv_at hl 0 rfl) ?_
  refine k_get (ci := 2) (C := RX2) (T := TX2) (N := 3) hx hb hts hiX2 hown hK hH ho.2.1 (Ec_th ho) rfl 2 (by decide) lk0 (fun _ h => h) rfl dX8_moves_1 ?_
  refine lv_bipush (v := 11) hx hb dX8_moves_4 (by decide +kernel) ?_
  refine k_aftv (va_runV (As := [.int (11 : Int32)]) (rest := []) ⟨hx, hb, hml, hown, hts⟩ (c_X9_begin l D kA ly n hn A (11 : Int32) S _) (cwV 1 hts gX8_moves_X9_begin rfl rfl rfl (by decide +kernel) ⟨(Nat.le_of_ble_eq_true rfl), (Nat.le_of_ble_eq_true rfl)⟩) ⟨k_blind, (k_recv hK hH (lt_n hn (by decide)) Ec_7 rfl), k_pre hK hN hH hw⟩ rfl rfl hl.1 rfl (lv_room (Nat.le_of_ble_eq_true rfl)) dX8_moves_6 ⟨Nat.le_refl _, Nat.le_refl _⟩) hH (fun S1 H locs hw hH => ?_)
  refine lv_aload_n hx hb dX8_moves_9 rfl (lv_at hl 0 rfl) ?_
  refine lv_iload_n hx hb dX8_moves_10 rfl (lv_at hl 1 rfl) ?_
  obtain ⟨hs2, hw⟩ := hw
  refine k_afti (va_runU (As := [.int a1]) (rest := []) ⟨hx, hb, hml, hown, hts0⟩ (c_X8_shows_c2 l D kA ly n hn A o a1 S1 _) (va_cwU 1 hts0 (good_pre gX8_moves_X8_shows_u26X2 (fun w h => wz_in (List.mem_append_right _ (List.mem_append_right _ (List.mem_append_right _ (List.mem_append_right _ (List.mem_append_right _ (List.mem_append_right _ (List.mem_append_right _ (List.mem_append_right _ (List.mem_append_right _ (List.mem_append_right _ (List.mem_append_left _ h)))))))))))) (wz_goodIn (fun w h => List.mem_cons_of_mem _ h) (List.mem_append_right _ (List.mem_append_right _ (List.mem_append_right _ (List.mem_append_right _ (List.mem_append_right _ (List.mem_append_right _ (List.mem_append_right _ (List.mem_append_right _ (List.mem_append_right _ (List.mem_append_left _ List.mem_cons_self)))))))))))) rfl rfl rfl rfl (by decide +kernel) ⟨(Nat.le_of_ble_eq_true rfl), (Nat.le_of_ble_eq_true rfl)⟩) ⟨k_blind, (k_recv hK hH hs2.2.1 (Ec_th hs2) rfl), k_pre hK hN hH hw⟩ rfl rfl hl.1 rfl (lv_room (Nat.le_of_ble_eq_true rfl)) dX8_moves_11 ⟨Nat.le_refl _, Nat.le_refl _⟩) hH (fun r4 S3 H locs hw hH => ?_)
  refine lv_iconst (v := 2) hx hb dX8_moves_14 (by decide +kernel) ?_
  refine lv_imul hx hb dX8_moves_15 ?_
  exact k_iret hx hb hr hlocks hK hN hH hw dX8_moves_16
def wp_X8_shares_c2 (n : List Nat) (o : Nat) (a1 : Int32) (S : St) (Q : Int32 → St → Prop) : Prop := (isTh n S 2 o ∧ wp_X9_begin (12 : Int32) S (fun S1 => (isTh n S1 2 o ∧ wp_X9_part a1 ((gI S1 o 1) - (gI S1 o 0)) S1 (fun r4 S3 => Q r4 S3))))
set_option maxHeartbeats 4000000 in
set_option maxRecDepth 100000 in
theorem c_X8_shares_c2 (l : Launch) (D : va_G) (kA : Nat → ClassId) (ly : Nat → Nat) (n : List Nat) (hn : ∀ c, c < 59 → c ∈ n) (A : Nat → Prop) (o : Nat) (a1 : Int32) : Ci l yX8_shares (wz yX8_shares cX8_shares 2 (some .int)) 1 22 (Gp D (Ec kA ly) ly n A kA) A [.ref (ly o), .int a1] (wp_X8_shares_c2 n o a1) := by
  intro S Q
  refine Met.ofW (cc := cX8_shares) (maxL := 2) (ret := (some .int)) (by decide) rfl ?_
  intro p e s m args below meth c s₁ B hml hv
  obtain ⟨rfl, ⟨hP, hD, hK, hN⟩, hw⟩ := hv
  have hx := B.exec
  have hb := B.bytes
  have hr := B.returns
  have hts0 := atoms_spec (ws := (wz yX8_shares cX8_shares 2 (some .int))) B.pre
  have hts : ∀ w ∈ wsX8_shares, w.before _ s = true := fun w h => hts0 w (wz_in (List.mem_append_right _ (List.mem_append_right _ (List.mem_append_right _ (List.mem_append_right _ (List.mem_append_right _ (List.mem_append_right _ (List.mem_append_right _ (List.mem_append_right _ (List.mem_append_right _ (List.mem_append_right _ (List.mem_append_right _ (List.mem_append_left _ h)))))))))))))
  have hown : s.vm.findClass RX8 = some m.cls := findClass_of_methodNamed B.named
  have hlocks := B.notSynchronized
  have hH : Hp D (Ec kA ly) ly n A s.heap S s.heap [] := ⟨hP, hD, va_S.rf⟩
  have hiX2 : ∀ w ∈ u_ws RX2 TX2 3, w ∈ wsX8_shares := by decide +kernel
  have lk0 := hts (.fieldLink RX8 16 "SlowPanes$Thing" "trace" "LSlowPanes$Trace;") (by decide +kernel)
  have lk1 := hts (.fieldLink RX8 13 "SlowPanes$Thing" "a" "I") (by decide +kernel)
  have lk2 := hts (.fieldLink RX8 7 "SlowPanes$Thing" "n" "I") (by decide +kernel)
  have hl := lv_entry ([.ref (ly o), .int a1]) (n := 2) (Nat.le_of_ble_eq_true rfl)
  rw [lg_entry_eq]
  generalize (lg_sl ([.ref (ly o), .int a1]) ++ List.replicate (2 - (lg_sl ([.ref (ly o), .int a1])).length) Slot.unset).toArray = ls at hl ⊢
  have hl : lv_has ls 2 [(0, .ref (ly o)), (1, .int a1)] := hl
  rw [wp_X8_shares_c2] at hw
  obtain ⟨ho, hw⟩ := hw
  refine lv_aload_n hx hb dX8_shares_0 rfl (lv_at hl 0 rfl) ?_
  refine k_get (ci := 2) (C := RX2) (T := TX2) (N := 3) hx hb hts hiX2 hown hK hH ho.2.1 (Ec_th ho) rfl 2 (by decide) lk0 (fun _ h => h) rfl dX8_shares_1 ?_
  refine lv_bipush (v := 12) hx hb dX8_shares_4 (by decide +kernel) ?_
  refine k_aftv (va_runV (As := [.int (12 : Int32)]) (rest := []) ⟨hx, hb, hml, hown, hts⟩ (c_X9_begin l D kA ly n hn A (12 : Int32) S _) (cwV 1 hts gX8_shares_X9_begin rfl rfl rfl (by decide +kernel) ⟨(Nat.le_of_ble_eq_true rfl), (Nat.le_of_ble_eq_true rfl)⟩) ⟨k_blind, (k_recv hK hH (lt_n hn (by decide)) Ec_7 rfl), k_pre hK hN hH hw⟩ rfl rfl hl.1 rfl (lv_room (Nat.le_of_ble_eq_true rfl)) dX8_shares_6 ⟨Nat.le_refl _, Nat.le_refl _⟩) hH (fun S1 H locs hw hH => ?_)
  refine lv_aload_n hx hb dX8_shares_9 rfl (lv_at hl 0 rfl) ?_
  obtain ⟨hs2, hw⟩ := hw
  refine k_get (ci := 2) (C := RX2) (T := TX2) (N := 3) hx hb hts hiX2 hown hK hH hs2.2.1 (Ec_th hs2) rfl 2 (by decide) lk0 (fun _ h => h) rfl dX8_shares_10 ?_
  refine lv_iload_n hx hb dX8_shares_13 rfl (lv_at hl 1 rfl) ?_
  refine lv_aload_n hx hb dX8_shares_14 rfl (lv_at hl 0 rfl) ?_
  refine k_get (ci := 2) (C := RX2) (T := TX2) (N := 3) hx hb hts hiX2 hown hK hH hs2.2.1 (Ec_th hs2) rfl 1 (by decide) lk1 (fun _ h => h) rfl dX8_shares_15 ?_
  refine lv_aload_n hx hb dX8_shares_18 rfl (lv_at hl 0 rfl) ?_
  refine k_get (ci := 2) (C := RX2) (T := TX2) (N := 3) hx hb hts hiX2 hown hK hH hs2.2.1 (Ec_th hs2) rfl 0 (by decide) lk2 (fun _ h => h) rfl dX8_shares_19 ?_
  refine lv_isub hx hb dX8_shares_22 ?_
  refine k_afti (va_runV (As := [.int a1, .int ((gI S1 o 1) - (gI S1 o 0))]) (rest := []) ⟨hx, hb, hml, hown, hts⟩ (c_X9_part l D kA ly n hn A a1 ((gI S1 o 1) - (gI S1 o 0)) S1 _) (cwV 2 hts gX8_shares_X9_part rfl rfl rfl (by decide +kernel) ⟨(Nat.le_of_ble_eq_true rfl), (Nat.le_of_ble_eq_true rfl)⟩) ⟨k_blind, (k_recv hK hH (lt_n hn (by decide)) Ec_7 rfl), k_pre hK hN hH hw⟩ rfl rfl hl.1 rfl (lv_room (Nat.le_of_ble_eq_true rfl)) dX8_shares_23 ⟨Nat.le_refl _, Nat.le_refl _⟩) hH (fun r4 S3 H locs hw hH => ?_)
  exact k_iret hx hb hr hlocks hK hN hH hw dX8_shares_26
def wp_X2_shares_c2 (n : List Nat) (o : Nat) (a1 : Int32) (S : St) (Q : Int32 → St → Prop) : Prop := (isTh n S 2 o ∧ wp_X9_begin (61 : Int32) S (fun S1 => (isTh n S1 2 o ∧ wp_X8_shares_c2 n o a1 S1 (fun r4 S3 => (isTh n S3 2 o ∧ wp_X8_shows_c2 n o (gI S3 o 1) S3 (fun r7 S6 => Q (r4 + r7) S6))))))
set_option maxHeartbeats 4000000 in
set_option maxRecDepth 100000 in
theorem c_X2_shares_c2 (l : Launch) (D : va_G) (kA : Nat → ClassId) (ly : Nat → Nat) (n : List Nat) (hn : ∀ c, c < 59 → c ∈ n) (A : Nat → Prop) (o : Nat) (a1 : Int32) : Ci l yX2_shares (wz yX2_shares cX2_shares 2 (some .int)) 2 43 (Gp D (Ec kA ly) ly n A kA) A [.ref (ly o), .int a1] (wp_X2_shares_c2 n o a1) := by
  intro S Q
  refine Met.ofW (cc := cX2_shares) (maxL := 2) (ret := (some .int)) (by decide) rfl ?_
  intro p e s m args below meth c s₁ B hml hv
  obtain ⟨rfl, ⟨hP, hD, hK, hN⟩, hw⟩ := hv
  have hx := B.exec
  have hb := B.bytes
  have hr := B.returns
  have hts0 := atoms_spec (ws := (wz yX2_shares cX2_shares 2 (some .int))) B.pre
  have hts : ∀ w ∈ wsX2_shares, w.before _ s = true := fun w h => hts0 w (wz_in (List.mem_append_right _ (List.mem_append_right _ (List.mem_append_right _ (List.mem_append_right _ (List.mem_append_right _ (List.mem_append_left _ h)))))))
  have hown : s.vm.findClass RX2 = some m.cls := findClass_of_methodNamed B.named
  have hlocks := B.notSynchronized
  have hH : Hp D (Ec kA ly) ly n A s.heap S s.heap [] := ⟨hP, hD, va_S.rf⟩
  have hiX2 : ∀ w ∈ u_ws RX2 TX2 3, w ∈ wsX2_shares := by decide +kernel
  have lk0 := hts (.fieldLink RX2 7 "SlowPanes$MirrorThing" "trace" "LSlowPanes$Trace;") (by decide +kernel)
  have lk1 := hts (.sameField "SlowPanes$MirrorThing" "SlowPanes$Thing" "trace" "LSlowPanes$Trace;") (by decide +kernel)
  have lk2 := hts (.fieldLink RX2 26 "SlowPanes$MirrorThing" "a" "I") (by decide +kernel)
  have lk3 := hts (.sameField "SlowPanes$MirrorThing" "SlowPanes$Thing" "a" "I") (by decide +kernel)
  have hl := lv_entry ([.ref (ly o), .int a1]) (n := 2) (Nat.le_of_ble_eq_true rfl)
  rw [lg_entry_eq]
  generalize (lg_sl ([.ref (ly o), .int a1]) ++ List.replicate (2 - (lg_sl ([.ref (ly o), .int a1])).length) Slot.unset).toArray = ls at hl ⊢
  have hl : lv_has ls 2 [(0, .ref (ly o)), (1, .int a1)] := hl
  rw [wp_X2_shares_c2] at hw
  obtain ⟨ho, hw⟩ := hw
  refine lv_aload_n hx hb dX2_shares_0 rfl (lv_at hl 0 rfl) ?_
  refine k_get (ci := 2) (C := RX2) (T := TX2) (N := 3) hx hb hts hiX2 hown hK hH ho.2.1 (Ec_th ho) rfl 2 (by decide) lk0 (fun x h => u_same lk1 x h) rfl dX2_shares_1 ?_
  refine lv_bipush (v := 61) hx hb dX2_shares_4 (by decide +kernel) ?_
  refine k_aftv (va_runV (As := [.int (61 : Int32)]) (rest := []) ⟨hx, hb, hml, hown, hts⟩ (c_X9_begin l D kA ly n hn A (61 : Int32) S _) (cwV 1 hts gX2_shares_X9_begin rfl rfl rfl (by decide +kernel) ⟨(Nat.le_of_ble_eq_true rfl), (Nat.le_of_ble_eq_true rfl)⟩) ⟨k_blind, (k_recv hK hH (lt_n hn (by decide)) Ec_7 rfl), k_pre hK hN hH hw⟩ rfl rfl hl.1 rfl (lv_room (Nat.le_of_ble_eq_true rfl)) dX2_shares_6 ⟨Nat.le_refl _, Nat.le_refl _⟩) hH (fun S1 H locs hw hH => ?_)
  refine lv_aload_n hx hb dX2_shares_9 rfl (lv_at hl 0 rfl) ?_
  refine lv_iload_n hx hb dX2_shares_10 rfl (lv_at hl 1 rfl) ?_
  obtain ⟨hs2, hw⟩ := hw
  refine k_afti (va_runSU (As := [.int a1]) (rest := []) (hK.1 2 _ rfl).2 ⟨hx, hb, hml, hown, hts0⟩ (c_X8_shares_c2 l D kA ly n hn A o a1 S1 _) (va_cwSU 1 hts0 (good_pre gX2_shares_X8_shares_s23 (fun w h => wz_in (List.mem_append_right _ (List.mem_append_right _ (List.mem_append_right _ (List.mem_append_right _ (List.mem_append_right _ (List.mem_append_left _ h))))))) (wz_goodIn (fun w h => List.mem_cons_of_mem _ h) (List.mem_append_right _ (List.mem_append_right _ (List.mem_append_right _ (List.mem_append_right _ (List.mem_append_right _ (List.mem_append_right _ (List.mem_append_right _ (List.mem_append_right _ (List.mem_append_right _ (List.mem_append_right _ (List.mem_append_right _ (List.mem_append_left _ List.mem_cons_self)))))))))))))) rfl rfl rfl (by decide +kernel) ⟨(Nat.le_of_ble_eq_true rfl), (Nat.le_of_ble_eq_true rfl)⟩) ⟨k_blind, (k_recv hK hH hs2.2.1 (Ec_th hs2) rfl), k_pre hK hN hH hw⟩ rfl rfl hl.1 rfl (lv_room (Nat.le_of_ble_eq_true rfl)) dX2_shares_11 ⟨Nat.le_refl _, Nat.le_refl _⟩) hH (fun r4 S3 H locs hw hH => ?_)
  refine lv_aload_n hx hb dX2_shares_14 rfl (lv_at hl 0 rfl) ?_
  refine lv_aload_n hx hb dX2_shares_15 rfl (lv_at hl 0 rfl) ?_
  obtain ⟨hs5, hw⟩ := hw
  refine k_get (ci := 2) (C := RX2) (T := TX2) (N := 3) hx hb hts hiX2 hown hK hH hs5.2.1 (Ec_th hs5) rfl 1 (by decide) lk2 (fun x h => u_same lk3 x h) rfl dX2_shares_16 ?_
  refine k_afti (va_runU (As := [.int (gI S3 o 1)]) (rest := [.int r4]) ⟨hx, hb, hml, hown, hts0⟩ (c_X8_shows_c2 l D kA ly n hn A o (gI S3 o 1) S3 _) (va_cwU 1 hts0 (good_pre gX2_shares_X8_shows_u30X2 (fun w h => wz_in (List.mem_append_right _ (List.mem_append_right _ (List.mem_append_right _ (List.mem_append_right _ (List.mem_append_right _ (List.mem_append_left _ h))))))) (wz_goodIn (fun w h => List.mem_cons_of_mem _ h) (List.mem_append_right _ (List.mem_append_right _ (List.mem_append_right _ (List.mem_append_right _ (List.mem_append_right _ (List.mem_append_right _ (List.mem_append_right _ (List.mem_append_right _ (List.mem_append_right _ (List.mem_append_left _ List.mem_cons_self)))))))))))) rfl rfl rfl rfl (by decide +kernel) ⟨(Nat.le_of_ble_eq_true rfl), (Nat.le_of_ble_eq_true rfl)⟩) ⟨k_blind, (k_recv hK hH hs5.2.1 (Ec_th hs5) rfl), k_pre hK hN hH hw⟩ rfl rfl hl.1 rfl (lv_room (Nat.le_of_ble_eq_true rfl)) dX2_shares_19 ⟨Nat.le_refl _, Nat.le_refl _⟩) hH (fun r7 S6 H locs hw hH => ?_)
  refine lv_iadd hx hb dX2_shares_22 ?_
  exact k_iret hx hb hr hlocks hK hN hH hw dX2_shares_23
def wp_X8_tells_c2 (n : List Nat) (o : Nat) (a1 : Int32) (S : St) (Q : Int32 → St → Prop) : Prop := (isTh n S 2 o ∧ wp_X9_begin (13 : Int32) S (fun S1 => (isTh n S1 2 o ∧ wp_X8_moves_c2 n o a1 S1 (fun r4 S3 => (isTh n S3 2 o ∧ Q (r4 ^^^ (gI S3 o 1)) S3)))))
set_option maxHeartbeats 4000000 in
set_option maxRecDepth 100000 in
theorem c_X8_tells_c2 (l : Launch) (D : va_G) (kA : Nat → ClassId) (ly : Nat → Nat) (n : List Nat) (hn : ∀ c, c < 59 → c ∈ n) (A : Nat → Prop) (o : Nat) (a1 : Int32) : Ci l yX8_tells (wz yX8_tells cX8_tells 2 (some .int)) 3 63 (Gp D (Ec kA ly) ly n A kA) A [.ref (ly o), .int a1] (wp_X8_tells_c2 n o a1) := by
  intro S Q
  refine Met.ofW (cc := cX8_tells) (maxL := 2) (ret := (some .int)) (by decide) rfl ?_
  intro p e s m args below meth c s₁ B hml hv
  obtain ⟨rfl, ⟨hP, hD, hK, hN⟩, hw⟩ := hv
  have hx := B.exec
  have hb := B.bytes
  have hr := B.returns
  have hts0 := atoms_spec (ws := (wz yX8_tells cX8_tells 2 (some .int))) B.pre
  have hts : ∀ w ∈ wsX8_tells, w.before _ s = true := fun w h => hts0 w (wz_in (List.mem_append_right _ (List.mem_append_right _ (List.mem_append_right _ (List.mem_append_right _ (List.mem_append_right _ (List.mem_append_right _ (List.mem_append_right _ (List.mem_append_right _ (List.mem_append_right _ (List.mem_append_right _ (List.mem_append_right _ (List.mem_append_right _ (List.mem_append_left _ h))))))))))))))
  have hown : s.vm.findClass RX8 = some m.cls := findClass_of_methodNamed B.named
  have hlocks := B.notSynchronized
  have hH : Hp D (Ec kA ly) ly n A s.heap S s.heap [] := ⟨hP, hD, va_S.rf⟩
  have hiX2 : ∀ w ∈ u_ws RX2 TX2 3, w ∈ wsX8_tells := by decide +kernel
  have lk0 := hts (.fieldLink RX8 16 "SlowPanes$Thing" "trace" "LSlowPanes$Trace;") (by decide +kernel)
  have lk1 := hts (.fieldLink RX8 13 "SlowPanes$Thing" "a" "I") (by decide +kernel)
  have hl := lv_entry ([.ref (ly o), .int a1]) (n := 2) (Nat.le_of_ble_eq_true rfl)
  rw [lg_entry_eq]
  generalize (lg_sl ([.ref (ly o), .int a1]) ++ List.replicate (2 - (lg_sl ([.ref (ly o), .int a1])).length) Slot.unset).toArray = ls at hl ⊢
  have hl : lv_has ls 2 [(0, .ref (ly o)), (1, .int a1)] := hl
  rw [wp_X8_tells_c2] at hw
  obtain ⟨ho, hw⟩ := hw
  refine lv_aload_n hx hb dX8_tells_0 rfl (lv_at hl 0 rfl) ?_
  refine k_get (ci := 2) (C := RX2) (T := TX2) (N := 3) hx hb hts hiX2 hown hK hH ho.2.1 (Ec_th ho) rfl 2 (by decide) lk0 (fun _ h => h) rfl dX8_tells_1 ?_
  refine lv_bipush (v := 13) hx hb dX8_tells_4 (by decide +kernel) ?_
  refine k_aftv (va_runV (As := [.int (13 : Int32)]) (rest := []) ⟨hx, hb, hml, hown, hts⟩ (c_X9_begin l D kA ly n hn A (13 : Int32) S _) (cwV 1 hts gX8_tells_X9_begin rfl rfl rfl (by decide +kernel) ⟨(Nat.le_of_ble_eq_true rfl), (Nat.le_of_ble_eq_true rfl)⟩) ⟨k_blind, (k_recv hK hH (lt_n hn (by decide)) Ec_7 rfl), k_pre hK hN hH hw⟩ rfl rfl hl.1 rfl (lv_room (Nat.le_of_ble_eq_true rfl)) dX8_tells_6 ⟨Nat.le_refl _, Nat.le_refl _⟩) hH (fun S1 H locs hw hH => ?_)
  refine lv_aload_n hx hb dX8_tells_9 rfl (lv_at hl 0 rfl) ?_
  refine lv_iload_n hx hb dX8_tells_10 rfl (lv_at hl 1 rfl) ?_
  obtain ⟨hs2, hw⟩ := hw
  refine k_afti (va_runU (As := [.int a1]) (rest := []) ⟨hx, hb, hml, hown, hts0⟩ (c_X8_moves_c2 l D kA ly n hn A o a1 S1 _) (va_cwU 1 hts0 (good_pre gX8_tells_X8_moves_u34X2 (fun w h => wz_in (List.mem_append_right _ (List.mem_append_right _ (List.mem_append_right _ (List.mem_append_right _ (List.mem_append_right _ (List.mem_append_right _ (List.mem_append_right _ (List.mem_append_right _ (List.mem_append_right _ (List.mem_append_right _ (List.mem_append_right _ (List.mem_append_right _ (List.mem_append_left _ h)))))))))))))) (wz_goodIn (fun w h => List.mem_cons_of_mem _ h) (List.mem_append_right _ (List.mem_append_right _ (List.mem_append_right _ (List.mem_append_right _ (List.mem_append_right _ (List.mem_append_right _ (List.mem_append_right _ (List.mem_append_right _ (List.mem_append_right _ (List.mem_append_right _ (List.mem_append_left _ List.mem_cons_self))))))))))))) rfl rfl rfl rfl (by decide +kernel) ⟨(Nat.le_of_ble_eq_true rfl), (Nat.le_of_ble_eq_true rfl)⟩) ⟨k_blind, (k_recv hK hH hs2.2.1 (Ec_th hs2) rfl), k_pre hK hN hH hw⟩ rfl rfl hl.1 rfl (lv_room (Nat.le_of_ble_eq_true rfl)) dX8_tells_11 ⟨Nat.le_refl _, Nat.le_refl _⟩) hH (fun r4 S3 H locs hw hH => ?_)
  refine lv_aload_n hx hb dX8_tells_14 rfl (lv_at hl 0 rfl) ?_
  obtain ⟨hs5, hw⟩ := hw
  refine k_get (ci := 2) (C := RX2) (T := TX2) (N := 3) hx hb hts hiX2 hown hK hH hs5.2.1 (Ec_th hs5) rfl 1 (by decide) lk1 (fun _ h => h) rfl dX8_tells_15 ?_
  refine lv_ixor hx hb dX8_tells_18 ?_
  exact k_iret hx hb hr hlocks hK hN hH hw dX8_tells_19
def wp_X2_tells_c2 (n : List Nat) (o : Nat) (a1 : Int32) (S : St) (Q : Int32 → St → Prop) : Prop := (isTh n S 2 o ∧ wp_X9_begin (60 : Int32) S (fun S1 => (isTh n S1 2 o ∧ wp_X8_tells_c2 n o a1 S1 (fun r4 S3 => Q (r4 * (2 : Int32)) S3))))
set_option maxHeartbeats 4000000 in
set_option maxRecDepth 100000 in
theorem c_X2_tells_c2 (l : Launch) (D : va_G) (kA : Nat → ClassId) (ly : Nat → Nat) (n : List Nat) (hn : ∀ c, c < 59 → c ∈ n) (A : Nat → Prop) (o : Nat) (a1 : Int32) : Ci l yX2_tells (wz yX2_tells cX2_tells 2 (some .int)) 4 84 (Gp D (Ec kA ly) ly n A kA) A [.ref (ly o), .int a1] (wp_X2_tells_c2 n o a1) := by
  intro S Q
  refine Met.ofW (cc := cX2_tells) (maxL := 2) (ret := (some .int)) (by decide) rfl ?_
  intro p e s m args below meth c s₁ B hml hv
  obtain ⟨rfl, ⟨hP, hD, hK, hN⟩, hw⟩ := hv
  have hx := B.exec
  have hb := B.bytes
  have hr := B.returns
  have hts0 := atoms_spec (ws := (wz yX2_tells cX2_tells 2 (some .int))) B.pre
  have hts : ∀ w ∈ wsX2_tells, w.before _ s = true := fun w h => hts0 w (wz_in (List.mem_append_right _ (List.mem_append_right _ (List.mem_append_right _ (List.mem_append_right _ (List.mem_append_left _ h))))))
  have hown : s.vm.findClass RX2 = some m.cls := findClass_of_methodNamed B.named
  have hlocks := B.notSynchronized
  have hH : Hp D (Ec kA ly) ly n A s.heap S s.heap [] := ⟨hP, hD, va_S.rf⟩
  have hiX2 : ∀ w ∈ u_ws RX2 TX2 3, w ∈ wsX2_tells := by decide +kernel
  have lk0 := hts (.fieldLink RX2 7 "SlowPanes$MirrorThing" "trace" "LSlowPanes$Trace;") (by decide +kernel)
  have lk1 := hts (.sameField "SlowPanes$MirrorThing" "SlowPanes$Thing" "trace" "LSlowPanes$Trace;") (by decide +kernel)
  have hl := lv_entry ([.ref (ly o), .int a1]) (n := 2) (Nat.le_of_ble_eq_true rfl)
  rw [lg_entry_eq]
  generalize (lg_sl ([.ref (ly o), .int a1]) ++ List.replicate (2 - (lg_sl ([.ref (ly o), .int a1])).length) Slot.unset).toArray = ls at hl ⊢
  have hl : lv_has ls 2 [(0, .ref (ly o)), (1, .int a1)] := hl
  rw [wp_X2_tells_c2] at hw
  obtain ⟨ho, hw⟩ := hw
  refine lv_aload_n hx hb dX2_tells_0 rfl (lv_at hl 0 rfl) ?_
  refine k_get (ci := 2) (C := RX2) (T := TX2) (N := 3) hx hb hts hiX2 hown hK hH ho.2.1 (Ec_th ho) rfl 2 (by decide) lk0 (fun x h => u_same lk1 x h) rfl dX2_tells_1 ?_
  refine lv_bipush (v := 60) hx hb dX2_tells_4 (by decide +kernel) ?_
  refine k_aftv (va_runV (As := [.int (60 : Int32)]) (rest := []) ⟨hx, hb, hml, hown, hts⟩ (c_X9_begin l D kA ly n hn A (60 : Int32) S _) (cwV 1 hts gX2_tells_X9_begin rfl rfl rfl (by decide +kernel) ⟨(Nat.le_of_ble_eq_true rfl), (Nat.le_of_ble_eq_true rfl)⟩) ⟨k_blind, (k_recv hK hH (lt_n hn (by decide)) Ec_7 rfl), k_pre hK hN hH hw⟩ rfl rfl hl.1 rfl (lv_room (Nat.le_of_ble_eq_true rfl)) dX2_tells_6 ⟨Nat.le_refl _, Nat.le_refl _⟩) hH (fun S1 H locs hw hH => ?_)
  refine lv_aload_n hx hb dX2_tells_9 rfl (lv_at hl 0 rfl) ?_
  refine lv_iload_n hx hb dX2_tells_10 rfl (lv_at hl 1 rfl) ?_
  obtain ⟨hs2, hw⟩ := hw
  refine k_afti (va_runSU (As := [.int a1]) (rest := []) (hK.1 2 _ rfl).2 ⟨hx, hb, hml, hown, hts0⟩ (c_X8_tells_c2 l D kA ly n hn A o a1 S1 _) (va_cwSU 1 hts0 (good_pre gX2_tells_X8_tells_s19 (fun w h => wz_in (List.mem_append_right _ (List.mem_append_right _ (List.mem_append_right _ (List.mem_append_right _ (List.mem_append_left _ h)))))) (wz_goodIn (fun w h => List.mem_cons_of_mem _ h) (List.mem_append_right _ (List.mem_append_right _ (List.mem_append_right _ (List.mem_append_right _ (List.mem_append_right _ (List.mem_append_right _ (List.mem_append_right _ (List.mem_append_right _ (List.mem_append_right _ (List.mem_append_right _ (List.mem_append_right _ (List.mem_append_right _ (List.mem_append_left _ List.mem_cons_self))))))))))))))) rfl rfl rfl (by decide +kernel) ⟨(Nat.le_of_ble_eq_true rfl), (Nat.le_of_ble_eq_true rfl)⟩) ⟨k_blind, (k_recv hK hH hs2.2.1 (Ec_th hs2) rfl), k_pre hK hN hH hw⟩ rfl rfl hl.1 rfl (lv_room (Nat.le_of_ble_eq_true rfl)) dX2_tells_11 ⟨Nat.le_refl _, Nat.le_refl _⟩) hH (fun r4 S3 H locs hw hH => ?_)
  refine lv_iconst (v := 2) hx hb dX2_tells_14 (by decide +kernel) ?_
  refine lv_imul hx hb dX2_tells_15 ?_
  exact k_iret hx hb hr hlocks hK hN hH hw dX2_tells_16
