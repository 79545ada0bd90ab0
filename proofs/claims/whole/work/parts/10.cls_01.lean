def wp_X3_passDay (o : Nat) (a1 : Int32) (S : St) (Q : St → Prop) : Prop := (isPn o ∧ wp_X3_movesOn o a1 S (fun r2 S1 => ((r2 = 0 → Q S1) ∧ (¬ r2 = 0 → (∀ S4 : St, S4 = sI S1 o 1 (((gI S1 o 1) - (1 : Int32)) &&& (15 : Int32)) → (((gI S4 o 4) = (4 : Int32) → wp_X3_putGlimpse o (0 : Int32) (-9 : Int32) S4 (fun S9 => Q S9)) ∧ (¬ (gI S4 o 4) = (4 : Int32) → wp_X11_glimpseOf (gI S4 o 4) a1 S4 (fun r7 S6 => wp_X3_putGlimpse o (0 : Int32) r7 S6 (fun S8 => Q S8)))))))))
set_option maxHeartbeats 4000000 in
set_option maxRecDepth 100000 in
theorem c_X3_passDay (l : Launch) (D : va_G) (kA : Nat → ClassId) (ly : Nat → Nat) (n : List Nat) (hn : ∀ c, c < 59 → c ∈ n) (A : Nat → Prop) (o : Nat) (a1 : Int32) : Cv l yX3_passDay wsX3_passDay 1 22 (Gp D (Ec kA ly) ly n A kA) A [.ref (ly o), .int a1] (wp_X3_passDay o a1) := by
  intro S Q
  refine Met.ofW (cc := cX3_passDay) (maxL := 2) (ret := none) (by decide) rfl ?_
  intro p e s m args below meth c s₁ B hml hv
  obtain ⟨rfl, ⟨hP, hD, hK, hN⟩, hw⟩ := hv
  have hx := B.exec
  have hb := B.bytes
  have hr := B.returns
  have hts := atoms_spec (ws := wsX3_passDay) B.pre
  have hown : s.vm.findClass RX3 = some m.cls := findClass_of_methodNamed B.named
  have hlocks := B.notSynchronized
  have hH : Hp D (Ec kA ly) ly n A s.heap S s.heap [] := ⟨hP, hD, va_S.rf⟩
  have hiX3 : ∀ w ∈ u_ws RX3 TX3 5, w ∈ wsX3_passDay := by decide +kernel
  have lk0 := hts (.fieldLink RX3 15 "SlowPanes$Pane" "face" "I") (by decide +kernel)
  have lk1 := hts (.fieldLink RX3 25 "SlowPanes$Pane" "place" "I") (by decide +kernel)
  have lk2 := hts (.initialized RX11) (by decide +kernel)
  have lk3 := hts (.static yX11_glimpseOf) (by decide +kernel)
  have hl := lv_entry ([.ref (ly o), .int a1]) (n := 2) (Nat.le_of_ble_eq_true rfl)
  rw [lg_entry_eq]
  generalize (lg_sl ([.ref (ly o), .int a1]) ++ List.replicate (2 - (lg_sl ([.ref (ly o), .int a1])).length) Slot.unset).toArray = ls at hl ⊢
  have hl : lv_has ls 2 [(0, .ref (ly o)), (1, .int a1)] := hl
  rw [wp_X3_passDay] at hw
  obtain ⟨ho, hw⟩ := hw
  refine lv_aload_n hx hb dX3_passDay_0 rfl (lv_at hl 0 rfl) ?_
  refine lv_iload_n hx hb dX3_passDay_1 rfl (lv_at hl 1 rfl) ?_
  refine k_afti (va_runV (As := [.int a1]) (rest := []) ⟨hx, hb, hml, hown, hts⟩ (c_X3_movesOn l D kA ly n hn A o a1 S _) (cwV 1 hts gX3_passDay_X3_movesOn rfl rfl rfl (by decide +kernel) ⟨(Nat.le_of_ble_eq_true rfl), (Nat.le_of_ble_eq_true rfl)⟩) ⟨k_blind, (k_recv hK hH (pn_lt hn ho) (Ec_pn ho) rfl), k_pre hK hN hH hw⟩ rfl rfl hl.1 rfl (lv_room (Nat.le_of_ble_eq_true rfl)) dX3_passDay_2 ⟨Nat.le_refl _, Nat.le_refl _⟩) hH (fun r2 S1 H locs hw hH => ?_)
  refine lv_if_ne (tgt := 9) hx hb dX3_passDay_5 (by decide) (fun hc3 => ?_) (fun hc3 => ?_)
  · replace hw := hw.2 hc3
    refine lv_aload_n hx hb dX3_passDay_9 rfl (lv_at hl 0 rfl) ?_
    refine lv_aload_n hx hb dX3_passDay_10 rfl (lv_at hl 0 rfl) ?_
    refine gf_pn_1 hx hb hts hiX3 hown hK hn hH ho lk0 dX3_passDay_11 ?_
    refine lv_iconst (v := 1) hx hb dX3_passDay_14 (by decide +kernel) ?_
    refine lv_isub hx hb dX3_passDay_15 ?_
    refine lv_bipush (v := 15) hx hb dX3_passDay_16 (by decide +kernel) ?_
    refine lv_iand hx hb dX3_passDay_18 ?_
    refine pf_pn_1 hx hb hts hiX3 hown hK hn hH ho lk0 dX3_passDay_19 (fun S4 H locs eS4 hH => ?_)
    replace hw := hw S4 eS4
    refine lv_aload_n hx hb dX3_passDay_22 rfl (lv_at hl 0 rfl) ?_
    refine lv_iconst (v := 0) hx hb dX3_passDay_23 (by decide +kernel) ?_
    refine lv_aload_n hx hb dX3_passDay_24 rfl (lv_at hl 0 rfl) ?_
    refine gf_pn_4 hx hb hts hiX3 hown hK hn hH ho lk1 dX3_passDay_25 ?_
    refine lv_iconst (v := 4) hx hb dX3_passDay_28 (by decide +kernel) ?_
    refine lv_icmp_ne (tgt := 37) hx hb dX3_passDay_29 (by decide) (fun hc5 => ?_) (fun hc5 => ?_)
    · replace hw := hw.2 hc5
      refine lv_aload_n hx hb dX3_passDay_37 rfl (lv_at hl 0 rfl) ?_
      refine gf_pn_4 hx hb hts hiX3 hown hK hn hH ho lk1 dX3_passDay_38 ?_
      refine lv_iload_n hx hb dX3_passDay_41 rfl (lv_at hl 1 rfl) ?_
      refine k_afti (va_runSN (As := [.int (gI S4 o 4), .int a1]) (rest := [.int (0 : Int32), .ref (ly o)]) ⟨hx, hb, hml, hown, hts⟩ (c_X11_glimpseOf l D kA ly n hn A (gI S4 o 4) a1 S4 _) ⟨va_cnB 2 hts gX3_passDay_X11_glimpseOf_n49 rfl rfl rfl (hN _ (List.mem_of_getElem? (i := 3) rfl)) lk2 (by decide +kernel) ⟨(Nat.le_of_ble_eq_true rfl), (Nat.le_of_ble_eq_true rfl)⟩, lk3, trivial⟩ ⟨k_blind, k_pre hK hN hH hw⟩ rfl rfl hl.1 rfl (lv_room (Nat.le_of_ble_eq_true rfl)) dX3_passDay_42 ⟨Nat.le_refl _, Nat.le_refl _⟩) hH (fun r7 S6 H locs hw hH => ?_)
      refine k_aftv (va_runV (As := [.int (0 : Int32), .int r7]) (rest := []) ⟨hx, hb, hml, hown, hts⟩ (c_X3_putGlimpse l D kA ly n hn A o (0 : Int32) r7 S6 _) (cwV 2 hts gX3_passDay_X3_putGlimpse rfl rfl rfl (by decide +kernel) ⟨(Nat.le_of_ble_eq_true rfl), (Nat.le_of_ble_eq_true rfl)⟩) ⟨k_blind, (k_recv hK hH (pn_lt hn ho) (Ec_pn ho) rfl), k_pre hK hN hH hw⟩ rfl rfl hl.1 rfl (lv_room (Nat.le_of_ble_eq_true rfl)) dX3_passDay_45 ⟨Nat.le_refl _, Nat.le_refl _⟩) hH (fun S8 H locs hw hH => ?_)
      exact k_vret hx hb hr hlocks hK hN hH hw dX3_passDay_48
    · replace hw := hw.1 hc5
      refine lv_bipush (v := -9) hx hb dX3_passDay_32 (by decide +kernel) ?_
      refine lv_goto (tgt := 45) hx hb dX3_passDay_34 (by decide) ?_
      refine k_aftv (va_runV (As := [.int (0 : Int32), .int (-9 : Int32)]) (rest := []) ⟨hx, hb, hml, hown, hts⟩ (c_X3_putGlimpse l D kA ly n hn A o (0 : Int32) (-9 : Int32) S4 _) (cwV 2 hts gX3_passDay_X3_putGlimpse rfl rfl rfl (by decide +kernel) ⟨(Nat.le_of_ble_eq_true rfl), (Nat.le_of_ble_eq_true rfl)⟩) ⟨k_blind, (k_recv hK hH (pn_lt hn ho) (Ec_pn ho) rfl), k_pre hK hN hH hw⟩ rfl rfl hl.1 rfl (lv_room (Nat.le_of_ble_eq_true rfl)) dX3_passDay_45 ⟨Nat.le_refl _, Nat.le_refl _⟩) hH (fun S9 H locs hw hH => ?_)
      exact k_vret hx hb hr hlocks hK hN hH hw dX3_passDay_48
  · replace hw := hw.1 hc3
    exact k_vret hx hb hr hlocks hK hN hH hw dX3_passDay_8
def wl_X4_take_3 (a1 : Int64) (a3 : Int32) (K_3 : Int32 → St → Prop) : Nat → Int32 → St → Prop
  | 0, _, _ => False
  | fu_3 + 1, v4_3, S_3 => ((a3 ≤ v4_3 → K_3 v4_3 S_3) ∧ (¬ a3 ≤ v4_3 → (vp_in (gI S_3 1 1) 200 ∧ ∀ S3 : St, S3 = sA S_3 2 (gI S_3 1 1).toNatClampNeg ((((a1.toUInt64 >>> (((8 : Int32) * v4_3).toInt64.toUInt64 &&& Int64.toUInt64 63)).toInt64).toInt32) &&& (255 : Int32)) → (∀ S4 : St, S4 = sI S3 1 1 ((gI S3 1 1) + (1 : Int32)) → (∀ t5 : Int32, t5 = v4_3 + 1 → wl_X4_take_3 a1 a3 K_3 fu_3 t5 S4)))))
def wp_X4_take (a1 : Int64) (a3 : Int32) (S : St) (Q : St → Prop) : Prop := (∃ m_3 : Nat, wl_X4_take_3 a1 a3 (fun e4_6 S7 => Q S7) m_3 (0 : Int32) S)
set_option maxHeartbeats 4000000 in
set_option maxRecDepth 100000 in
theorem c_X4_take (l : Launch) (D : va_G) (kA : Nat → ClassId) (ly : Nat → Nat) (n : List Nat) (hn : ∀ c, c < 59 → c ∈ n) (A : Nat → Prop) (a1 : Int64) (a3 : Int32) : Cv l yX4_take wsX4_take 0 0 (Gp D (Ec kA ly) ly n A kA) A [.ref (ly 1), .long a1, .int a3] (wp_X4_take a1 a3) := by
  intro S Q
  refine Met.ofW (cc := cX4_take) (maxL := 5) (ret := none) (by decide) rfl ?_
  intro p e s m args below meth c s₁ B hml hv
  obtain ⟨rfl, ⟨hP, hD, hK, hN⟩, hw⟩ := hv
  have hx := B.exec
  have hb := B.bytes
  have hr := B.returns
  have hts := atoms_spec (ws := wsX4_take) B.pre
  have hown : s.vm.findClass RX4 = some m.cls := findClass_of_methodNamed B.named
  have hlocks := B.notSynchronized
  have hH : Hp D (Ec kA ly) ly n A s.heap S s.heap [] := ⟨hP, hD, va_S.rf⟩
  have hiX4 : ∀ w ∈ u_ws RX4 TX4 5, w ∈ wsX4_take := by decide +kernel
  have lk0 := hts (.fieldLink RX4 9 "SlowPanes$Quarry" "bytes" "[I") (by decide +kernel)
  have lk1 := hts (.fieldLink RX4 15 "SlowPanes$Quarry" "length" "I") (by decide +kernel)
  have hl := lv_entry ([.ref (ly 1), .long a1, .int a3]) (n := 5) (Nat.le_of_ble_eq_true rfl)
  rw [lg_entry_eq]
  generalize (lg_sl ([.ref (ly 1), .long a1, .int a3]) ++ List.replicate (5 - (lg_sl ([.ref (ly 1), .long a1, .int a3])).length) Slot.unset).toArray = ls at hl ⊢
  have hl : lv_has ls 5 [(0, .ref (ly 1)), (1, .long a1), (3, .int a3)] := hl
  rw [wp_X4_take] at hw
  refine lv_iconst (v := 0) hx hb dX4_take_0 (by decide +kernel) ?_
  refine lv_istore (lv' := [(4, .int (0 : Int32)), (0, .ref (ly 1)), (1, .long a1), (3, .int a3)]) hx hb dX4_take_1 hl (by decide) rfl (fun ls hl => ?_)
  have L_3 : ∀ (K_3 : Int32 → St → Prop) (hk_3 : ∀ (v4_3 : Int32) (S_3 : St) (H : Heap) (locs : List Loc) (ls : Array Slot), K_3 v4_3 S_3 → Hp D (Ec kA ly) ly n A s.heap S_3 H locs → lv_has ls 5 [(0, .ref (ly 1)), (1, .long a1), (3, .int a3), (4, .int v4_3)] → W p l e (headSpec wsX4_take { frames := 0, cells := 0, slots := 0, locals := 0 }).room s m [.ref (ly 1), .long a1, .int a3].toArray below meth c H locs 0 0 (MQ below (va_Qv Q (Gp D (Ec kA ly) ly n A kA) A) [.ref (ly 1), .long a1, .int a3].toArray s 0 0 A) (F0 m 46 ls [])) (fu_3 : Nat) (v4_3 : Int32) (S_3 : St) (H : Heap) (locs : List Loc) (ls : Array Slot), wl_X4_take_3 a1 a3 K_3 fu_3 v4_3 S_3 → Hp D (Ec kA ly) ly n A s.heap S_3 H locs → lv_has ls 5 [(0, .ref (ly 1)), (1, .long a1), (3, .int a3), (4, .int v4_3)] → W p l e (headSpec wsX4_take { frames := 0, cells := 0, slots := 0, locals := 0 }).room s m [.ref (ly 1), .long a1, .int a3].toArray below meth c H locs 0 0 (MQ below (va_Qv Q (Gp D (Ec kA ly) ly n A kA) A) [.ref (ly 1), .long a1, .int a3].toArray s 0 0 A) (F0 m 3 ls []) := by
    intro K_3 hk_3 fu_3
    induction fu_3 with
    | zero => intro v4_3 S_3 H locs ls hw hH hl; rw [wl_X4_take_3] at hw; exact hw.elim
    | succ fu_3 ih_3 =>
      intro v4_3 S_3 H locs ls hw hH hl
      rw [wl_X4_take_3] at hw
      refine lv_iload hx hb dX4_take_3 (lv_at hl 3 rfl) ?_
      refine lv_iload_n hx hb dX4_take_5 rfl (lv_at hl 2 rfl) ?_
      refine lv_icmp_ge (tgt := 46) hx hb dX4_take_6 (by decide) (fun hc1 => ?_) (fun hc1 => ?_)
      · replace hw := hw.1 hc1
        exact hk_3 v4_3 S_3 _ _ ls hw hH (lv_sub hl [0, 1, 2, 3] rfl)
      · replace hw := hw.2 hc1
        refine lv_aload_n hx hb dX4_take_9 rfl (lv_at hl 0 rfl) ?_
        refine gf_tape_0 hx hb hts hiX4 hown hK hn hH lk0 dX4_take_10 ?_
        refine lv_aload_n hx hb dX4_take_13 rfl (lv_at hl 0 rfl) ?_
        refine gf_tape_1 hx hb hts hiX4 hown hK hn hH lk1 dX4_take_14 ?_
        refine lv_lload_n hx hb dX4_take_17 rfl (lv_at hl 1 rfl) ?_
        refine lv_bipush (v := 8) hx hb dX4_take_18 (by decide +kernel) ?_
        refine lv_iload hx hb dX4_take_20 (lv_at hl 3 rfl) ?_
        refine lv_imul hx hb dX4_take_22 ?_
        refine lv_lushr hx hb dX4_take_23 rfl ?_
        refine lv_l2i hx hb dX4_take_24 rfl ?_
        refine lv_sipush (v := 255) hx hb dX4_take_25 (by decide +kernel) ?_
        refine lv_iand hx hb dX4_take_28 ?_
        obtain ⟨hi_2, hw⟩ := hw
        refine k_ist hx hb hK hH (lt_n hn (by decide)) (fun _ => Ec_2) hi_2 dX4_take_29 (fun S3 H locs eS3 hH => ?_)
        replace hw := hw S3 eS3
        refine lv_aload_n hx hb dX4_take_30 rfl (lv_at hl 0 rfl) ?_
        refine lv_dup hx hb dX4_take_31 rfl ?_
        refine gf_tape_1 hx hb hts hiX4 hown hK hn hH lk1 dX4_take_32 ?_
        refine lv_iconst (v := 1) hx hb dX4_take_35 (by decide +kernel) ?_
        refine lv_iadd hx hb dX4_take_36 ?_
        refine pf_tape_1 hx hb hts hiX4 hown hK hn hH lk1 dX4_take_37 (fun S4 H locs eS4 hH => ?_)
        replace hw := hw S4 eS4
        obtain ⟨t5, et5⟩ : ∃ y : Int32, y = v4_3 + 1 := ⟨_, rfl⟩
        replace hw := hw t5 et5
        refine lv_iinc (v := t5) (lv' := [(4, .int t5), (0, .ref (ly 1)), (1, .long a1), (3, .int a3)]) hx hb dX4_take_40 hl (k := 3) rfl (by rw [et5]; rfl) (by decide) rfl (fun ls hl => ?_)
        refine lv_goto (tgt := 3) hx hb dX4_take_43 (by decide) ?_
        exact ih_3 t5 S4 _ _ ls hw hH (lv_sub hl [1, 2, 3, 0] rfl)
  obtain ⟨m_3, hw⟩ := hw
  refine L_3 _ (fun e4_6 S7 H locs ls hw hH hl => ?_) m_3 (0 : Int32) S _ _ ls hw hH (lv_sub hl [1, 2, 3, 0] rfl)
  exact k_vret hx hb hr hlocks hK hN hH hw dX4_take_46
def wl_X4_look_0  (K_0 : St → Prop) : Nat → St → Prop
  | 0, _ => False
  | fu_0 + 1, S_0 => (((gI S_0 1 1) ≤ (gI S_0 1 2) → K_0 S_0) ∧ (¬ (gI S_0 1 1) ≤ (gI S_0 1 2) → (vp_in (gI S_0 1 2) 200 ∧ (((gA S_0 2 (gI S_0 1 2).toNatClampNeg) = (32 : Int32) → (∀ S4 : St, S4 = sI S_0 1 2 ((gI S_0 1 2) + (1 : Int32)) → wl_X4_look_0 K_0 fu_0 S4)) ∧ (¬ (gA S_0 2 (gI S_0 1 2).toNatClampNeg) = (32 : Int32) → K_0 S_0)))))
def wp_X4_look  (S : St) (Q : St → Prop) : Prop := (∃ m_0 : Nat, wl_X4_look_0 (fun S5 => (∀ S6 : St, S6 = sI S5 1 3 (gI S5 1 2) → Q S6)) m_0 S)
set_option maxHeartbeats 4000000 in
set_option maxRecDepth 100000 in
theorem c_X4_look (l : Launch) (D : va_G) (kA : Nat → ClassId) (ly : Nat → Nat) (n : List Nat) (hn : ∀ c, c < 59 → c ∈ n) (A : Nat → Prop)  : Cv l yX4_look wsX4_look 0 0 (Gp D (Ec kA ly) ly n A kA) A [.ref (ly 1)] (wp_X4_look) := by
  intro S Q
  refine Met.ofW (cc := cX4_look) (maxL := 1) (ret := none) (by decide) rfl ?_
  intro p e s m args below meth c s₁ B hml hv
  obtain ⟨rfl, ⟨hP, hD, hK, hN⟩, hw⟩ := hv
  have hx := B.exec
  have hb := B.bytes
  have hr := B.returns
  have hts := atoms_spec (ws := wsX4_look) B.pre
  have hown : s.vm.findClass RX4 = some m.cls := findClass_of_methodNamed B.named
  have hlocks := B.notSynchronized
  have hH : Hp D (Ec kA ly) ly n A s.heap S s.heap [] := ⟨hP, hD, va_S.rf⟩
  have hiX4 : ∀ w ∈ u_ws RX4 TX4 5, w ∈ wsX4_look := by decide +kernel
  have lk0 := hts (.fieldLink RX4 19 "SlowPanes$Quarry" "at" "I") (by decide +kernel)
  have lk1 := hts (.fieldLink RX4 15 "SlowPanes$Quarry" "length" "I") (by decide +kernel)
  have lk2 := hts (.fieldLink RX4 9 "SlowPanes$Quarry" "bytes" "[I") (by decide +kernel)
  have lk3 := hts (.fieldLink RX4 22 "SlowPanes$Quarry" "start" "I") (by decide +kernel)
  have hl := lv_entry ([.ref (ly 1)]) (n := 1) (Nat.le_of_ble_eq_true rfl)
  rw [lg_entry_eq]
  generalize (lg_sl ([.ref (ly 1)]) ++ List.replicate (1 - (lg_sl ([.ref (ly 1)])).length) Slot.unset).toArray = ls at hl ⊢
  have hl : lv_has ls 1 [(0, .ref (ly 1))] := hl
  rw [wp_X4_look] at hw
  have L_0 : ∀ (K_0 : St → Prop) (hk_0 : ∀  (S_0 : St) (H : Heap) (locs : List Loc) (ls : Array Slot), K_0 S_0 → Hp D (Ec kA ly) ly n A s.heap S_0 H locs → lv_has ls 1 [(0, .ref (ly 1))] → W p l e (headSpec wsX4_look { frames := 0, cells := 0, slots := 0, locals := 0 }).room s m [.ref (ly 1)].toArray below meth c H locs 0 0 (MQ below (va_Qv Q (Gp D (Ec kA ly) ly n A kA) A) [.ref (ly 1)].toArray s 0 0 A) (F0 m 38 ls [])) (fu_0 : Nat)  (S_0 : St) (H : Heap) (locs : List Loc) (ls : Array Slot), wl_X4_look_0 K_0 fu_0 S_0 → Hp D (Ec kA ly) ly n A s.heap S_0 H locs → lv_has ls 1 [(0, .ref (ly 1))] → W p l e (headSpec wsX4_look { frames := 0, cells := 0, slots := 0, locals := 0 }).room s m [.ref (ly 1)].toArray below meth c H locs 0 0 (MQ below (va_Qv Q (Gp D (Ec kA ly) ly n A kA) A) [.ref (ly 1)].toArray s 0 0 A) (F0 m 0 ls []) := by
    intro K_0 hk_0 fu_0
    induction fu_0 with
    | zero => intro S_0 H locs ls hw hH hl; rw [wl_X4_look_0] at hw; exact hw.elim
    | succ fu_0 ih_0 =>
      intro S_0 H locs ls hw hH hl
      rw [wl_X4_look_0] at hw
      refine lv_aload_n hx hb dX4_look_0 rfl (lv_at hl 0 rfl) ?_
      refine gf_tape_2 hx hb hts hiX4 hown hK hn hH lk0 dX4_look_1 ?_
      refine lv_aload_n hx hb dX4_look_4 rfl (lv_at hl 0 rfl) ?_
      refine gf_tape_1 hx hb hts hiX4 hown hK hn hH lk1 dX4_look_5 ?_
      refine lv_icmp_ge (tgt := 38) hx hb dX4_look_8 (by decide) (fun hc1 => ?_) (fun hc1 => ?_)
      · replace hw := hw.1 hc1
        exact hk_0  S_0 _ _ ls hw hH (lv_sub hl [0] rfl)
      · replace hw := hw.2 hc1
        refine lv_aload_n hx hb dX4_look_11 rfl (lv_at hl 0 rfl) ?_
        refine gf_tape_0 hx hb hts hiX4 hown hK hn hH lk2 dX4_look_12 ?_
        refine lv_aload_n hx hb dX4_look_15 rfl (lv_at hl 0 rfl) ?_
        refine gf_tape_2 hx hb hts hiX4 hown hK hn hH lk0 dX4_look_16 ?_
        obtain ⟨hi_2, hw⟩ := hw
        refine k_ild hx hb hK hH (lt_n hn (by decide)) Ec_2 hi_2 dX4_look_19 ?_
        refine lv_bipush (v := 32) hx hb dX4_look_20 (by decide +kernel) ?_
        refine lv_icmp_ne (tgt := 38) hx hb dX4_look_22 (by decide) (fun hc3 => ?_) (fun hc3 => ?_)
        · replace hw := hw.2 hc3
          exact hk_0  S_0 _ _ ls hw hH (lv_sub hl [0] rfl)
        · replace hw := hw.1 hc3
          refine lv_aload_n hx hb dX4_look_25 rfl (lv_at hl 0 rfl) ?_
          refine lv_dup hx hb dX4_look_26 rfl ?_
          refine gf_tape_2 hx hb hts hiX4 hown hK hn hH lk0 dX4_look_27 ?_
          refine lv_iconst (v := 1) hx hb dX4_look_30 (by decide +kernel) ?_
          refine lv_iadd hx hb dX4_look_31 ?_
          refine pf_tape_2 hx hb hts hiX4 hown hK hn hH lk0 dX4_look_32 (fun S4 H locs eS4 hH => ?_)
          replace hw := hw S4 eS4
          refine lv_goto (tgt := 0) hx hb dX4_look_35 (by decide) ?_
          exact ih_0  S4 _ _ ls hw hH (lv_sub hl [0] rfl)
  obtain ⟨m_0, hw⟩ := hw
  refine L_0 _ (fun S5 H locs ls hw hH hl => ?_) m_0 S _ _ ls hw hH (lv_sub hl [0] rfl)
  refine lv_aload_n hx hb dX4_look_38 rfl (lv_at hl 0 rfl) ?_
  refine lv_aload_n hx hb dX4_look_39 rfl (lv_at hl 0 rfl) ?_
  refine gf_tape_2 hx hb hts hiX4 hown hK hn hH lk0 dX4_look_40 ?_
  refine pf_tape_3 hx hb hts hiX4 hown hK hn hH lk3 dX4_look_43 (fun S6 H locs eS6 hH => ?_)
  replace hw := hw S6 eS6
  exact k_vret hx hb hr hlocks hK hN hH hw dX4_look_46
def wp_X10_isFull (o : Nat) (S : St) (Q : Int32 → St → Prop) : Prop := (isW o ∧ (((gI S o 3) < (6 : Int32) → Q (0 : Int32) S) ∧ (¬ (gI S o 3) < (6 : Int32) → Q (1 : Int32) S)))
set_option maxHeartbeats 4000000 in
set_option maxRecDepth 100000 in
theorem c_X10_isFull (l : Launch) (D : va_G) (kA : Nat → ClassId) (ly : Nat → Nat) (n : List Nat) (hn : ∀ c, c < 59 → c ∈ n) (A : Nat → Prop) (o : Nat) : Ci l yX10_isFull wsX10_isFull 0 0 (Gp D (Ec kA ly) ly n A kA) A [.ref (ly o)] (wp_X10_isFull o) := by
  intro S Q
  refine Met.ofW (cc := cX10_isFull) (maxL := 1) (ret := (some .boolean)) (by decide) rfl ?_
  intro p e s m args below meth c s₁ B hml hv
  obtain ⟨rfl, ⟨hP, hD, hK, hN⟩, hw⟩ := hv
  have hx := B.exec
  have hb := B.bytes
  have hr := B.returns
  have hts := atoms_spec (ws := wsX10_isFull) B.pre
  have hown : s.vm.findClass RX10 = some m.cls := findClass_of_methodNamed B.named
  have hlocks := B.notSynchronized
  have hH : Hp D (Ec kA ly) ly n A s.heap S s.heap [] := ⟨hP, hD, va_S.rf⟩
  have hiX10 : ∀ w ∈ u_ws RX10 TX10 6, w ∈ wsX10_isFull := by decide +kernel
  have lk0 := hts (.fieldLink RX10 24 "SlowPanes$World" "count" "I") (by decide +kernel)
  have hl := lv_entry ([.ref (ly o)]) (n := 1) (Nat.le_of_ble_eq_true rfl)
  rw [lg_entry_eq]
  generalize (lg_sl ([.ref (ly o)]) ++ List.replicate (1 - (lg_sl ([.ref (ly o)])).length) Slot.unset).toArray = ls at hl ⊢
  have hl : lv_has ls 1 [(0, .ref (ly o))] := hl
  rw [wp_X10_isFull] at hw
  obtain ⟨ho, hw⟩ := hw
  refine lv_aload_n hx hb dX10_isFull_0 rfl (lv_at hl 0 rfl) ?_
  refine gf_w_3 hx hb hts hiX10 hown hK hn hH ho lk0 dX10_isFull_1 ?_
  refine lv_bipush (v := 6) hx hb dX10_isFull_4 (by decide +kernel) ?_
  refine lv_icmp_lt (tgt := 13) hx hb dX10_isFull_6 (by decide) (fun hc1 => ?_) (fun hc1 => ?_)
  · replace hw := hw.1 hc1
    refine lv_iconst (v := 0) hx hb dX10_isFull_13 (by decide +kernel) ?_
    exact k_zret hx hb hr hlocks hK hN hH rfl hw dX10_isFull_14
  · replace hw := hw.2 hc1
    refine lv_iconst (v := 1) hx hb dX10_isFull_9 (by decide +kernel) ?_
    refine lv_goto (tgt := 14) hx hb dX10_isFull_10 (by decide) ?_
    exact k_zret hx hb hr hlocks hK hN hH rfl hw dX10_isFull_14
def wp_X4_fail  (S : St) (Q : St → Prop) : Prop := ((0 ≤ (gI S 1 4) → Q S) ∧ (¬ 0 ≤ (gI S 1 4) → (∀ S2 : St, S2 = sI S 1 4 (gI S 1 3) → Q S2)))
set_option maxHeartbeats 4000000 in
set_option maxRecDepth 100000 in
theorem c_X4_fail (l : Launch) (D : va_G) (kA : Nat → ClassId) (ly : Nat → Nat) (n : List Nat) (hn : ∀ c, c < 59 → c ∈ n) (A : Nat → Prop)  : Cv l yX4_fail wsX4_fail 0 0 (Gp D (Ec kA ly) ly n A kA) A [.ref (ly 1)] (wp_X4_fail) := by
  intro S Q
  refine Met.ofW (cc := cX4_fail) (maxL := 1) (ret := none) (by decide) rfl ?_
  intro p e s m args below meth c s₁ B hml hv
  obtain ⟨rfl, ⟨hP, hD, hK, hN⟩, hw⟩ := hv
  have hx := B.exec
  have hb := B.bytes
  have hr := B.returns
  have hts := atoms_spec (ws := wsX4_fail) B.pre
  have hown : s.vm.findClass RX4 = some m.cls := findClass_of_methodNamed B.named
  have hlocks := B.notSynchronized
  have hH : Hp D (Ec kA ly) ly n A s.heap S s.heap [] := ⟨hP, hD, va_S.rf⟩
  have hiX4 : ∀ w ∈ u_ws RX4 TX4 5, w ∈ wsX4_fail := by decide +kernel
  have lk0 := hts (.fieldLink RX4 25 "SlowPanes$Quarry" "fault" "I") (by decide +kernel)
  have lk1 := hts (.fieldLink RX4 22 "SlowPanes$Quarry" "start" "I") (by decide +kernel)
  have hl := lv_entry ([.ref (ly 1)]) (n := 1) (Nat.le_of_ble_eq_true rfl)
  rw [lg_entry_eq]
  generalize (lg_sl ([.ref (ly 1)]) ++ List.replicate (1 - (lg_sl ([.ref (ly 1)])).length) Slot.unset).toArray = ls at hl ⊢
  have hl : lv_has ls 1 [(0, .ref (ly 1))] := hl
  rw [wp_X4_fail] at hw
  refine lv_aload_n hx hb dX4_fail_0 rfl (lv_at hl 0 rfl) ?_
  refine gf_tape_4 hx hb hts hiX4 hown hK hn hH lk0 dX4_fail_1 ?_
  refine lv_if_ge (tgt := 15) hx hb dX4_fail_4 (by decide) (fun hc1 => ?_) (fun hc1 => ?_)
  · replace hw := hw.1 hc1
    exact k_vret hx hb hr hlocks hK hN hH hw dX4_fail_15
  · replace hw := hw.2 hc1
    refine lv_aload_n hx hb dX4_fail_7 rfl (lv_at hl 0 rfl) ?_
    refine lv_aload_n hx hb dX4_fail_8 rfl (lv_at hl 0 rfl) ?_
    refine gf_tape_3 hx hb hts hiX4 hown hK hn hH lk1 dX4_fail_9 ?_
    refine pf_tape_4 hx hb hts hiX4 hown hK hn hH lk0 dX4_fail_12 (fun S2 H locs eS2 hH => ?_)
    replace hw := hw S2 eS2
    exact k_vret hx hb hr hlocks hK hN hH hw dX4_fail_15
def wl_X4_readNumber_6  (K_6 : Int32 → St → Prop) : Nat → Int32 → St → Prop
  | 0, _, _ => False
  | fu_6 + 1, v3_6, S_6 => (((gI S_6 1 1) ≤ (gI S_6 1 2) → K_6 v3_6 S_6) ∧ (¬ (gI S_6 1 1) ≤ (gI S_6 1 2) → (vp_in (gI S_6 1 2) 200 ∧ (((gA S_6 2 (gI S_6 1 2).toNatClampNeg) < (48 : Int32) → K_6 v3_6 S_6) ∧ (¬ (gA S_6 2 (gI S_6 1 2).toNatClampNeg) < (48 : Int32) → (vp_in (gI S_6 1 2) 200 ∧ (((57 : Int32) < (gA S_6 2 (gI S_6 1 2).toNatClampNeg) → K_6 v3_6 S_6) ∧ (¬ (57 : Int32) < (gA S_6 2 (gI S_6 1 2).toNatClampNeg) → (vp_in (gI S_6 1 2) 200 ∧ (∀ t8 : Int32, t8 = (((v3_6 * (10 : Int32)) + (gA S_6 2 (gI S_6 1 2).toNatClampNeg)) - (48 : Int32)) → (∀ S9 : St, S9 = sI S_6 1 2 ((gI S_6 1 2) + (1 : Int32)) → wl_X4_readNumber_6 K_6 fu_6 t8 S9)))))))))))
def wp_X4_readNumber (a1 : Int32) (a2 : Int32) (S : St) (Q : Int32 → St → Prop) : Prop := wp_X4_look S (fun S1 => (∃ m_6 : Nat, wl_X4_readNumber_6 (fun e3_10 S11 => (∀ t12 : Int32, t12 = ((gI S11 1 2) - (gI S11 1 3)) → ((t12 < (1 : Int32) → wp_X4_fail S11 (fun S14 => Q a1 S14)) ∧ (¬ t12 < (1 : Int32) → (((2 : Int32) < t12 → wp_X4_fail S11 (fun S16 => Q a1 S16)) ∧ (¬ (2 : Int32) < t12 → ((e3_10 < a1 → wp_X4_fail S11 (fun S18 => Q a1 S18)) ∧ (¬ e3_10 < a1 → ((e3_10 ≤ a2 → Q e3_10 S11) ∧ (¬ e3_10 ≤ a2 → wp_X4_fail S11 (fun S20 => Q a1 S20))))))))))) m_6 (0 : Int32) S1))
set_option maxHeartbeats 4000000 in
set_option maxRecDepth 100000 in
theorem c_X4_readNumber (l : Launch) (D : va_G) (kA : Nat → ClassId) (ly : Nat → Nat) (n : List Nat) (hn : ∀ c, c < 59 → c ∈ n) (A : Nat → Prop) (a1 : Int32) (a2 : Int32) : Ci l yX4_readNumber wsX4_readNumber 1 20 (Gp D (Ec kA ly) ly n A kA) A [.ref (ly 1), .int a1, .int a2] (wp_X4_readNumber a1 a2) := by
  intro S Q
  refine Met.ofW (cc := cX4_readNumber) (maxL := 5) (ret := (some .int)) (by decide) rfl ?_
  intro p e s m args below meth c s₁ B hml hv
  obtain ⟨rfl, ⟨hP, hD, hK, hN⟩, hw⟩ := hv
  have hx := B.exec
  have hb := B.bytes
  have hr := B.returns
  have hts := atoms_spec (ws := wsX4_readNumber) B.pre
  have hown : s.vm.findClass RX4 = some m.cls := findClass_of_methodNamed B.named
  have hlocks := B.notSynchronized
  have hH : Hp D (Ec kA ly) ly n A s.heap S s.heap [] := ⟨hP, hD, va_S.rf⟩
  have hiX4 : ∀ w ∈ u_ws RX4 TX4 5, w ∈ wsX4_readNumber := by decide +kernel
  have lk0 := hts (.fieldLink RX4 19 "SlowPanes$Quarry" "at" "I") (by decide +kernel)
  have lk1 := hts (.fieldLink RX4 15 "SlowPanes$Quarry" "length" "I") (by decide +kernel)
  have lk2 := hts (.fieldLink RX4 9 "SlowPanes$Quarry" "bytes" "[I") (by decide +kernel)
  have lk3 := hts (.fieldLink RX4 22 "SlowPanes$Quarry" "start" "I") (by decide +kernel)
  have hl := lv_entry ([.ref (ly 1), .int a1, .int a2]) (n := 5) (Nat.le_of_ble_eq_true rfl)
  rw [lg_entry_eq]
  generalize (lg_sl ([.ref (ly 1), .int a1, .int a2]) ++ List.replicate (5 - (lg_sl ([.ref (ly 1), .int a1, .int a2])).length) Slot.unset).toArray = ls at hl ⊢
  have hl : lv_has ls 5 [(0, .ref (ly 1)), (1, .int a1), (2, .int a2)] := hl
  rw [wp_X4_readNumber] at hw
  refine lv_aload_n hx hb dX4_readNumber_0 rfl (lv_at hl 0 rfl) ?_
  refine k_aftv (va_runV (As := []) (rest := []) ⟨hx, hb, hml, hown, hts⟩ (c_X4_look l D kA ly n hn A S _) (cwV 0 hts gX4_readNumber_X4_look rfl rfl rfl (by decide +kernel) ⟨(Nat.le_of_ble_eq_true rfl), (Nat.le_of_ble_eq_true rfl)⟩) ⟨k_blind, (k_recv hK hH (lt_n hn (by decide)) Ec_1 rfl), k_pre hK hN hH hw⟩ rfl rfl hl.1 rfl (lv_room (Nat.le_of_ble_eq_true rfl)) dX4_readNumber_1 ⟨Nat.le_refl _, Nat.le_refl _⟩) hH (fun S1 H locs hw hH => ?_)
  refine lv_iconst (v := 0) hx hb dX4_readNumber_4 (by decide +kernel) ?_
  refine lv_istore_n (lv' := [(3, .int (0 : Int32)), (0, .ref (ly 1)), (1, .int a1), (2, .int a2)]) hx hb dX4_readNumber_5 rfl hl (by decide) rfl (fun ls hl => ?_)
  have L_6 : ∀ (K_6 : Int32 → St → Prop) (hk_6 : ∀ (v3_6 : Int32) (S_6 : St) (H : Heap) (locs : List Loc) (ls : Array Slot), K_6 v3_6 S_6 → Hp D (Ec kA ly) ly n A s.heap S_6 H locs → lv_has ls 5 [(0, .ref (ly 1)), (1, .int a1), (2, .int a2), (3, .int v3_6)] → W p l e (headSpec wsX4_readNumber { frames := 1, cells := 0, slots := 0, locals := 20 }).room s m [.ref (ly 1), .int a1, .int a2].toArray below meth c H locs 0 0 (MQ below (va_Qi Q (Gp D (Ec kA ly) ly n A kA) A) [.ref (ly 1), .int a1, .int a2].toArray s 0 0 A) (F0 m 76 ls [])) (fu_6 : Nat) (v3_6 : Int32) (S_6 : St) (H : Heap) (locs : List Loc) (ls : Array Slot), wl_X4_readNumber_6 K_6 fu_6 v3_6 S_6 → Hp D (Ec kA ly) ly n A s.heap S_6 H locs → lv_has ls 5 [(0, .ref (ly 1)), (1, .int a1), (2, .int a2), (3, .int v3_6)] → W p l e (headSpec wsX4_readNumber { frames := 1, cells := 0, slots := 0, locals := 20 }).room s m [.ref (ly 1), .int a1, .int a2].toArray below meth c H locs 0 0 (MQ below (va_Qi Q (Gp D (Ec kA ly) ly n A kA) A) [.ref (ly 1), .int a1, .int a2].toArray s 0 0 A) (F0 m 6 ls []) := by
    intro K_6 hk_6 fu_6
    induction fu_6 with
    | zero => intro v3_6 S_6 H locs ls hw hH hl; rw [wl_X4_readNumber_6] at hw; exact hw.elim
    | succ fu_6 ih_6 =>
      intro v3_6 S_6 H locs ls hw hH hl
      rw [wl_X4_readNumber_6] at hw
      refine lv_aload_n hx hb dX4_readNumber_6 rfl (lv_at hl 0 rfl) ?_
      refine gf_tape_2 hx hb hts hiX4 hown hK hn hH lk0 dX4_readNumber_7 ?_
      refine lv_aload_n hx hb dX4_readNumber_10 rfl (lv_at hl 0 rfl) ?_
      refine gf_tape_1 hx hb hts hiX4 hown hK hn hH lk1 dX4_readNumber_11 ?_
      refine lv_icmp_ge (tgt := 76) hx hb dX4_readNumber_14 (by decide) (fun hc2 => ?_) (fun hc2 => ?_)
      · replace hw := hw.1 hc2
        exact hk_6 v3_6 S_6 _ _ ls hw hH (lv_sub hl [0, 1, 2, 3] rfl)
      · replace hw := hw.2 hc2
        refine lv_aload_n hx hb dX4_readNumber_17 rfl (lv_at hl 0 rfl) ?_
        refine gf_tape_0 hx hb hts hiX4 hown hK hn hH lk2 dX4_readNumber_18 ?_
        refine lv_aload_n hx hb dX4_readNumber_21 rfl (lv_at hl 0 rfl) ?_
        refine gf_tape_2 hx hb hts hiX4 hown hK hn hH lk0 dX4_readNumber_22 ?_
        obtain ⟨hi_3, hw⟩ := hw
        refine k_ild hx hb hK hH (lt_n hn (by decide)) Ec_2 hi_3 dX4_readNumber_25 ?_
        refine lv_bipush (v := 48) hx hb dX4_readNumber_26 (by decide +kernel) ?_
        refine lv_icmp_lt (tgt := 76) hx hb dX4_readNumber_28 (by decide) (fun hc4 => ?_) (fun hc4 => ?_)
        · replace hw := hw.1 hc4
          exact hk_6 v3_6 S_6 _ _ ls hw hH (lv_sub hl [0, 1, 2, 3] rfl)
        · replace hw := hw.2 hc4
          refine lv_aload_n hx hb dX4_readNumber_31 rfl (lv_at hl 0 rfl) ?_
          refine gf_tape_0 hx hb hts hiX4 hown hK hn hH lk2 dX4_readNumber_32 ?_
          refine lv_aload_n hx hb dX4_readNumber_35 rfl (lv_at hl 0 rfl) ?_
          refine gf_tape_2 hx hb hts hiX4 hown hK hn hH lk0 dX4_readNumber_36 ?_
          obtain ⟨hi_5, hw⟩ := hw
          refine k_ild hx hb hK hH (lt_n hn (by decide)) Ec_2 hi_5 dX4_readNumber_39 ?_
          refine lv_bipush (v := 57) hx hb dX4_readNumber_40 (by decide +kernel) ?_
          refine lv_icmp_gt (tgt := 76) hx hb dX4_readNumber_42 (by decide) (fun hc6 => ?_) (fun hc6 => ?_)
          · replace hw := hw.1 hc6
            exact hk_6 v3_6 S_6 _ _ ls hw hH (lv_sub hl [0, 1, 2, 3] rfl)
          · replace hw := hw.2 hc6
            refine lv_iload_n hx hb dX4_readNumber_45 rfl (lv_at hl 3 rfl) ?_
            refine lv_bipush (v := 10) hx hb dX4_readNumber_46 (by decide +kernel) ?_
            refine lv_imul hx hb dX4_readNumber_48 ?_
            refine lv_aload_n hx hb dX4_readNumber_49 rfl (lv_at hl 0 rfl) ?_
            refine gf_tape_0 hx hb hts hiX4 hown hK hn hH lk2 dX4_readNumber_50 ?_
            refine lv_aload_n hx hb dX4_readNumber_53 rfl (lv_at hl 0 rfl) ?_
            refine gf_tape_2 hx hb hts hiX4 hown hK hn hH lk0 dX4_readNumber_54 ?_
            obtain ⟨hi_7, hw⟩ := hw
            refine k_ild hx hb hK hH (lt_n hn (by decide)) Ec_2 hi_7 dX4_readNumber_57 ?_
            refine lv_iadd hx hb dX4_readNumber_58 ?_
            refine lv_bipush (v := 48) hx hb dX4_readNumber_59 (by decide +kernel) ?_
            refine lv_isub hx hb dX4_readNumber_61 ?_
            refine lv_topi (fun t8 et8 => ?_)
            replace hw := hw t8 et8
            refine lv_istore_n (lv' := [(3, .int t8), (0, .ref (ly 1)), (1, .int a1), (2, .int a2)]) hx hb dX4_readNumber_62 rfl hl (by decide) rfl (fun ls hl => ?_)
            refine lv_aload_n hx hb dX4_readNumber_63 rfl (lv_at hl 1 rfl) ?_
            refine lv_dup hx hb dX4_readNumber_64 rfl ?_
            refine gf_tape_2 hx hb hts hiX4 hown hK hn hH lk0 dX4_readNumber_65 ?_
            refine lv_iconst (v := 1) hx hb dX4_readNumber_68 (by decide +kernel) ?_
            refine lv_iadd hx hb dX4_readNumber_69 ?_
            refine pf_tape_2 hx hb hts hiX4 hown hK hn hH lk0 dX4_readNumber_70 (fun S9 H locs eS9 hH => ?_)
            replace hw := hw S9 eS9
            refine lv_goto (tgt := 6) hx hb dX4_readNumber_73 (by decide) ?_
            exact ih_6 t8 S9 _ _ ls hw hH (lv_sub hl [1, 2, 3, 0] rfl)
  obtain ⟨m_6, hw⟩ := hw
  refine L_6 _ (fun e3_10 S11 H locs ls hw hH hl => ?_) m_6 (0 : Int32) S1 _ _ ls hw hH (lv_sub hl [1, 2, 3, 0] rfl)
  refine lv_aload_n hx hb dX4_readNumber_76 rfl (lv_at hl 0 rfl) ?_
  refine gf_tape_2 hx hb hts hiX4 hown hK hn hH lk0 dX4_readNumber_77 ?_
  refine lv_aload_n hx hb dX4_readNumber_80 rfl (lv_at hl 0 rfl) ?_
  refine gf_tape_3 hx hb hts hiX4 hown hK hn hH lk3 dX4_readNumber_81 ?_
  refine lv_isub hx hb dX4_readNumber_84 ?_
  refine lv_topi (fun t12 et12 => ?_)
  replace hw := hw t12 et12
  refine lv_istore (lv' := [(4, .int t12), (0, .ref (ly 1)), (1, .int a1), (2, .int a2), (3, .int e3_10)]) hx hb dX4_readNumber_85 hl (by decide) rfl (fun ls hl => ?_)
  refine lv_iload hx hb dX4_readNumber_87 (lv_at hl 0 rfl) ?_
  refine lv_iconst (v := 1) hx hb dX4_readNumber_89 (by decide +kernel) ?_
  refine lv_icmp_lt (tgt := 109) hx hb dX4_readNumber_90 (by decide) (fun hc13 => ?_) (fun hc13 => ?_)
  · replace hw := hw.1 hc13
    refine lv_aload_n hx hb dX4_readNumber_109 rfl (lv_at hl 1 rfl) ?_
    refine k_aftv (va_runV (As := []) (rest := []) ⟨hx, hb, hml, hown, hts⟩ (c_X4_fail l D kA ly n hn A S11 _) (cwV 0 hts gX4_readNumber_X4_fail rfl rfl rfl (by decide +kernel) ⟨(Nat.le_of_ble_eq_true rfl), (Nat.le_of_ble_eq_true rfl)⟩) ⟨k_blind, (k_recv hK hH (lt_n hn (by decide)) Ec_1 rfl), k_pre hK hN hH hw⟩ rfl rfl hl.1 rfl (lv_room (Nat.le_of_ble_eq_true rfl)) dX4_readNumber_110 ⟨Nat.le_refl _, Nat.le_refl _⟩) hH (fun S14 H locs hw hH => ?_)
    refine lv_iload_n hx hb dX4_readNumber_113 rfl (lv_at hl 2 rfl) ?_
    exact k_iret hx hb hr hlocks hK hN hH hw dX4_readNumber_114
  · replace hw := hw.2 hc13
    refine lv_iload hx hb dX4_readNumber_93 (lv_at hl 0 rfl) ?_
    refine lv_iconst (v := 2) hx hb dX4_readNumber_95 (by decide +kernel) ?_
    refine lv_icmp_gt (tgt := 109) hx hb dX4_readNumber_96 (by decide) (fun hc15 => ?_) (fun hc15 => ?_)
    · replace hw := hw.1 hc15
      refine lv_aload_n hx hb dX4_readNumber_109 rfl (lv_at hl 1 rfl) ?_
      refine k_aftv (va_runV (As := []) (rest := []) ⟨hx, hb, hml, hown, hts⟩ (c_X4_fail l D kA ly n hn A S11 _) (cwV 0 hts gX4_readNumber_X4_fail rfl rfl rfl (by decide +kernel) ⟨(Nat.le_of_ble_eq_true rfl), (Nat.le_of_ble_eq_true rfl)⟩) ⟨k_blind, (k_recv hK hH (lt_n hn (by decide)) Ec_1 rfl), k_pre hK hN hH hw⟩ rfl rfl hl.1 rfl (lv_room (Nat.le_of_ble_eq_true rfl)) dX4_readNumber_110 ⟨Nat.le_refl _, Nat.le_refl _⟩) hH (fun S16 H locs hw hH => ?_)
      refine lv_iload_n hx hb dX4_readNumber_113 rfl (lv_at hl 2 rfl) ?_
      exact k_iret hx hb hr hlocks hK hN hH hw dX4_readNumber_114
    · replace hw := hw.2 hc15
      refine lv_iload_n hx hb dX4_readNumber_99 rfl (lv_at hl 4 rfl) ?_
      refine lv_iload_n hx hb dX4_readNumber_100 rfl (lv_at hl 2 rfl) ?_
      refine lv_icmp_lt (tgt := 109) hx hb dX4_readNumber_101 (by decide) (fun hc17 => ?_) (fun hc17 => ?_)
      · replace hw := hw.1 hc17
        refine lv_aload_n hx hb dX4_readNumber_109 rfl (lv_at hl 1 rfl) ?_
        refine k_aftv (va_runV (As := []) (rest := []) ⟨hx, hb, hml, hown, hts⟩ (c_X4_fail l D kA ly n hn A S11 _) (cwV 0 hts gX4_readNumber_X4_fail rfl rfl rfl (by decide +kernel) ⟨(Nat.le_of_ble_eq_true rfl), (Nat.le_of_ble_eq_true rfl)⟩) ⟨k_blind, (k_recv hK hH (lt_n hn (by decide)) Ec_1 rfl), k_pre hK hN hH hw⟩ rfl rfl hl.1 rfl (lv_room (Nat.le_of_ble_eq_true rfl)) dX4_readNumber_110 ⟨Nat.le_refl _, Nat.le_refl _⟩) hH (fun S18 H locs hw hH => ?_)
        refine lv_iload_n hx hb dX4_readNumber_113 rfl (lv_at hl 2 rfl) ?_
        exact k_iret hx hb hr hlocks hK hN hH hw dX4_readNumber_114
      · replace hw := hw.2 hc17
        refine lv_iload_n hx hb dX4_readNumber_104 rfl (lv_at hl 4 rfl) ?_
        refine lv_iload_n hx hb dX4_readNumber_105 rfl (lv_at hl 3 rfl) ?_
        refine lv_icmp_le (tgt := 115) hx hb dX4_readNumber_106 (by decide) (fun hc19 => ?_) (fun hc19 => ?_)
        · replace hw := hw.1 hc19
          refine lv_iload_n hx hb dX4_readNumber_115 rfl (lv_at hl 4 rfl) ?_
          exact k_iret hx hb hr hlocks hK hN hH hw dX4_readNumber_116
        · replace hw := hw.2 hc19
          refine lv_aload_n hx hb dX4_readNumber_109 rfl (lv_at hl 1 rfl) ?_
          refine k_aftv (va_runV (As := []) (rest := []) ⟨hx, hb, hml, hown, hts⟩ (c_X4_fail l D kA ly n hn A S11 _) (cwV 0 hts gX4_readNumber_X4_fail rfl rfl rfl (by decide +kernel) ⟨(Nat.le_of_ble_eq_true rfl), (Nat.le_of_ble_eq_true rfl)⟩) ⟨k_blind, (k_recv hK hH (lt_n hn (by decide)) Ec_1 rfl), k_pre hK hN hH hw⟩ rfl rfl hl.1 rfl (lv_room (Nat.le_of_ble_eq_true rfl)) dX4_readNumber_110 ⟨Nat.le_refl _, Nat.le_refl _⟩) hH (fun S20 H locs hw hH => ?_)
          refine lv_iload_n hx hb dX4_readNumber_113 rfl (lv_at hl 2 rfl) ?_
          exact k_iret hx hb hr hlocks hK hN hH hw dX4_readNumber_114
def wp_X10_addPane (o : Nat) (a1 : Int32) (a2 : Int32) (S : St) (Q : Nat → St → Prop) : Prop := (isW o ∧ (vp_in (gI S o 3) 6 ∧ ∀ o2 : Nat, o2 = gN S (o + 3) (gI S o 3).toNatClampNeg → isPn o2 ∧ wp_X3_become o2 a1 a2 S (fun S3 => (∀ S4 : St, S4 = sI S3 o 3 ((gI S3 o 3) + (1 : Int32)) → Q o2 S4))))
set_option maxHeartbeats 4000000 in
set_option maxRecDepth 100000 in
theorem c_X10_addPane (l : Launch) (D : va_G) (kA : Nat → ClassId) (ly : Nat → Nat) (n : List Nat) (hn : ∀ c, c < 59 → c ∈ n) (A : Nat → Prop) (o : Nat) (a1 : Int32) (a2 : Int32) : Cr l yX10_addPane wsX10_addPane 2 45 (Gp D (Ec kA ly) ly n A kA) ly A [.ref (ly o), .int a1, .int a2] (wp_X10_addPane o a1 a2) := by
  intro S Q
  refine Met.ofW (cc := cX10_addPane) (maxL := 4) (ret := (some (.object "SlowPanes$Pane"))) (by decide) rfl ?_
  intro p e s m args below meth c s₁ B hml hv
  obtain ⟨rfl, ⟨hP, hD, hK, hN⟩, hw⟩ := hv
  have hx := B.exec
  have hb := B.bytes
  have hr := B.returns
  have hts := atoms_spec (ws := wsX10_addPane) B.pre
  have hown : s.vm.findClass RX10 = some m.cls := findClass_of_methodNamed B.named
  have hlocks := B.notSynchronized
  have hH : Hp D (Ec kA ly) ly n A s.heap S s.heap [] := ⟨hP, hD, va_S.rf⟩
  have hiX10 : ∀ w ∈ u_ws RX10 TX10 6, w ∈ wsX10_addPane := by decide +kernel
  have lk0 := hts (.fieldLink RX10 20 "SlowPanes$World" "panes" "[LSlowPanes$Pane;") (by decide +kernel)
  have lk1 := hts (.fieldLink RX10 24 "SlowPanes$World" "count" "I") (by decide +kernel)
  have hl := lv_entry ([.ref (ly o), .int a1, .int a2]) (n := 4) (Nat.le_of_ble_eq_true rfl)
  rw [lg_entry_eq]
  generalize (lg_sl ([.ref (ly o), .int a1, .int a2]) ++ List.replicate (4 - (lg_sl ([.ref (ly o), .int a1, .int a2])).length) Slot.unset).toArray = ls at hl ⊢
  have hl : lv_has ls 4 [(0, .ref (ly o)), (1, .int a1), (2, .int a2)] := hl
  rw [wp_X10_addPane] at hw
  obtain ⟨ho, hw⟩ := hw
  refine lv_aload_n hx hb dX10_addPane_0 rfl (lv_at hl 0 rfl) ?_
  refine gf_w_2 hx hb hts hiX10 hown hK hn hH ho lk0 dX10_addPane_1 ?_
  refine lv_aload_n hx hb dX10_addPane_4 rfl (lv_at hl 0 rfl) ?_
  refine gf_w_3 hx hb hts hiX10 hown hK hn hH ho lk1 dX10_addPane_5 ?_
  obtain ⟨hi_1, hw⟩ := hw
  obtain ⟨o2, eo2⟩ : ∃ y : Nat, y = gN S (o + 3) (gI S o 3).toNatClampNeg := ⟨_, rfl⟩
  obtain ⟨ho2, hw⟩ := hw o2 eo2
  refine k_ald (t0 := 1) (v := .ref (ly o2)) hx hb hK hH (w_lt hn ho 3 (by decide)) rfl (Ec_wp ho) hi_1 (by rw [eo2]; rfl) dX10_addPane_8 ?_
  refine lv_astore_n (lv' := [(3, .ref (ly o2)), (0, .ref (ly o)), (1, .int a1), (2, .int a2)]) hx hb dX10_addPane_9 rfl hl (by decide) rfl (fun ls hl => ?_)
  refine lv_aload_n hx hb dX10_addPane_10 rfl (lv_at hl 0 rfl) ?_
  refine lv_iload_n hx hb dX10_addPane_11 rfl (lv_at hl 2 rfl) ?_
  refine lv_iload_n hx hb dX10_addPane_12 rfl (lv_at hl 3 rfl) ?_
  refine k_aftv (va_runV (As := [.int a1, .int a2]) (rest := []) ⟨hx, hb, hml, hown, hts⟩ (c_X3_become l D kA ly n hn A o2 a1 a2 S _) (cwV 2 hts gX10_addPane_X3_become rfl rfl rfl (by decide +kernel) ⟨(Nat.le_of_ble_eq_true rfl), (Nat.le_of_ble_eq_true rfl)⟩) ⟨k_blind, (k_recv hK hH (pn_lt hn ho2) (Ec_pn ho2) rfl), k_pre hK hN hH hw⟩ rfl rfl hl.1 rfl (lv_room (Nat.le_of_ble_eq_true rfl)) dX10_addPane_13 ⟨Nat.le_refl _, Nat.le_refl _⟩) hH (fun S3 H locs hw hH => ?_)
  refine lv_aload_n hx hb dX10_addPane_16 rfl (lv_at hl 1 rfl) ?_
  refine lv_dup hx hb dX10_addPane_17 rfl ?_
  refine gf_w_3 hx hb hts hiX10 hown hK hn hH ho lk1 dX10_addPane_18 ?_
  refine lv_iconst (v := 1) hx hb dX10_addPane_21 (by decide +kernel) ?_
  refine lv_iadd hx hb dX10_addPane_22 ?_
  refine pf_w_3 hx hb hts hiX10 hown hK hn hH ho lk1 dX10_addPane_23 (fun S4 H locs eS4 hH => ?_)
  replace hw := hw S4 eS4
  refine lv_aload_n hx hb dX10_addPane_26 rfl (lv_at hl 0 rfl) ?_
  exact k_aret hx hb hr hlocks hK hN hH hw dX10_addPane_27
def wp_X4_isSign (a1 : Int32) (S : St) (Q : Int32 → St → Prop) : Prop := wp_X4_look S (fun S1 => (((gI S1 1 1) ≤ (gI S1 1 2) → Q (0 : Int32) S1) ∧ (¬ (gI S1 1 1) ≤ (gI S1 1 2) → (vp_in (gI S1 1 2) 200 ∧ (((gA S1 2 (gI S1 1 2).toNatClampNeg) = a1 → (∀ S5 : St, S5 = sI S1 1 2 ((gI S1 1 2) + (1 : Int32)) → Q (1 : Int32) S5)) ∧ (¬ (gA S1 2 (gI S1 1 2).toNatClampNeg) = a1 → Q (0 : Int32) S1))))))
set_option maxHeartbeats 4000000 in
set_option maxRecDepth 100000 in
theorem c_X4_isSign (l : Launch) (D : va_G) (kA : Nat → ClassId) (ly : Nat → Nat) (n : List Nat) (hn : ∀ c, c < 59 → c ∈ n) (A : Nat → Prop) (a1 : Int32) : Ci l yX4_isSign wsX4_isSign 1 20 (Gp D (Ec kA ly) ly n A kA) A [.ref (ly 1), .int a1] (wp_X4_isSign a1) := by
  intro S Q
  refine Met.ofW (cc := cX4_isSign) (maxL := 2) (ret := (some .boolean)) (by decide) rfl ?_
  intro p e s m args below meth c s₁ B hml hv
  obtain ⟨rfl, ⟨hP, hD, hK, hN⟩, hw⟩ := hv
  have hx := B.exec
  have hb := B.bytes
  have hr := B.returns
  have hts := atoms_spec (ws := wsX4_isSign) B.pre
  have hown : s.vm.findClass RX4 = some m.cls := findClass_of_methodNamed B.named
  have hlocks := B.notSynchronized
  have hH : Hp D (Ec kA ly) ly n A s.heap S s.heap [] := ⟨hP, hD, va_S.rf⟩
  have hiX4 : ∀ w ∈ u_ws RX4 TX4 5, w ∈ wsX4_isSign := by decide +kernel
  have lk0 := hts (.fieldLink RX4 19 "SlowPanes$Quarry" "at" "I") (by decide +kernel)
  have lk1 := hts (.fieldLink RX4 15 "SlowPanes$Quarry" "length" "I") (by decide +kernel)
  have lk2 := hts (.fieldLink RX4 9 "SlowPanes$Quarry" "bytes" "[I") (by decide +kernel)
  have hl := lv_entry ([.ref (ly 1), .int a1]) (n := 2) (Nat.le_of_ble_eq_true rfl)
  rw [lg_entry_eq]
  generalize (lg_sl ([.ref (ly 1), .int a1]) ++ List.replicate (2 - (lg_sl ([.ref (ly 1), .int a1])).length) Slot.unset).toArray = ls at hl ⊢
  have hl : lv_has ls 2 [(0, .ref (ly 1)), (1, .int a1)] := hl
  rw [wp_X4_isSign] at hw
  refine lv_aload_n hx hb dX4_isSign_0 rfl (lv_at hl 0 rfl) ?_
  refine k_aftv (va_runV (As := []) (rest := []) ⟨hx, hb, hml, hown, hts⟩ (c_X4_look l D kA ly n hn A S _) (cwV 0 hts gX4_isSign_X4_look rfl rfl rfl (by decide +kernel) ⟨(Nat.le_of_ble_eq_true rfl), (Nat.le_of_ble_eq_true rfl)⟩) ⟨k_blind, (k_recv hK hH (lt_n hn (by decide)) Ec_1 rfl), k_pre hK hN hH hw⟩ rfl rfl hl.1 rfl (lv_room (Nat.le_of_ble_eq_true rfl)) dX4_isSign_1 ⟨Nat.le_refl _, Nat.le_refl _⟩) hH (fun S1 H locs hw hH => ?_)
  refine lv_aload_n hx hb dX4_isSign_4 rfl (lv_at hl 0 rfl) ?_
  refine gf_tape_2 hx hb hts hiX4 hown hK hn hH lk0 dX4_isSign_5 ?_
  refine lv_aload_n hx hb dX4_isSign_8 rfl (lv_at hl 0 rfl) ?_
  refine gf_tape_1 hx hb hts hiX4 hown hK hn hH lk1 dX4_isSign_9 ?_
  refine lv_icmp_ge (tgt := 28) hx hb dX4_isSign_12 (by decide) (fun hc2 => ?_) (fun hc2 => ?_)
  · replace hw := hw.1 hc2
    refine lv_iconst (v := 0) hx hb dX4_isSign_28 (by decide +kernel) ?_
    exact k_zret hx hb hr hlocks hK hN hH rfl hw dX4_isSign_29
  · replace hw := hw.2 hc2
    refine lv_aload_n hx hb dX4_isSign_15 rfl (lv_at hl 0 rfl) ?_
    refine gf_tape_0 hx hb hts hiX4 hown hK hn hH lk2 dX4_isSign_16 ?_
    refine lv_aload_n hx hb dX4_isSign_19 rfl (lv_at hl 0 rfl) ?_
    refine gf_tape_2 hx hb hts hiX4 hown hK hn hH lk0 dX4_isSign_20 ?_
    obtain ⟨hi_3, hw⟩ := hw
    refine k_ild hx hb hK hH (lt_n hn (by decide)) Ec_2 hi_3 dX4_isSign_23 ?_
    refine lv_iload_n hx hb dX4_isSign_24 rfl (lv_at hl 1 rfl) ?_
    refine lv_icmp_eq (tgt := 30) hx hb dX4_isSign_25 (by decide) (fun hc4 => ?_) (fun hc4 => ?_)
    · replace hw := hw.1 hc4
      refine lv_aload_n hx hb dX4_isSign_30 rfl (lv_at hl 0 rfl) ?_
      refine lv_dup hx hb dX4_isSign_31 rfl ?_
      refine gf_tape_2 hx hb hts hiX4 hown hK hn hH lk0 dX4_isSign_32 ?_
      refine lv_iconst (v := 1) hx hb dX4_isSign_35 (by decide +kernel) ?_
      refine lv_iadd hx hb dX4_isSign_36 ?_
      refine pf_tape_2 hx hb hts hiX4 hown hK hn hH lk0 dX4_isSign_37 (fun S5 H locs eS5 hH => ?_)
      replace hw := hw S5 eS5
      refine lv_iconst (v := 1) hx hb dX4_isSign_40 (by decide +kernel) ?_
      exact k_zret hx hb hr hlocks hK hN hH rfl hw dX4_isSign_41
    · replace hw := hw.2 hc4
      refine lv_iconst (v := 0) hx hb dX4_isSign_28 (by decide +kernel) ?_
      exact k_zret hx hb hr hlocks hK hN hH rfl hw dX4_isSign_29
def wp_X4_needSign (a1 : Int32) (S : St) (Q : St → Prop) : Prop := wp_X4_isSign a1 S (fun r2 S1 => ((r2 = 0 → wp_X4_fail S1 (fun S4 => Q S4)) ∧ (¬ r2 = 0 → Q S1)))
set_option maxHeartbeats 4000000 in
set_option maxRecDepth 100000 in
theorem c_X4_needSign (l : Launch) (D : va_G) (kA : Nat → ClassId) (ly : Nat → Nat) (n : List Nat) (hn : ∀ c, c < 59 → c ∈ n) (A : Nat → Prop) (a1 : Int32) : Cv l yX4_needSign wsX4_needSign 2 41 (Gp D (Ec kA ly) ly n A kA) A [.ref (ly 1), .int a1] (wp_X4_needSign a1) := by
  intro S Q
  refine Met.ofW (cc := cX4_needSign) (maxL := 2) (ret := none) (by decide) rfl ?_
  intro p e s m args below meth c s₁ B hml hv
  obtain ⟨rfl, ⟨hP, hD, hK, hN⟩, hw⟩ := hv
  have hx := B.exec
  have hb := B.bytes
  have hr := B.returns
  have hts := atoms_spec (ws := wsX4_needSign) B.pre
  have hown : s.vm.findClass RX4 = some m.cls := findClass_of_methodNamed B.named
  have hlocks := B.notSynchronized
  have hH : Hp D (Ec kA ly) ly n A s.heap S s.heap [] := ⟨hP, hD, va_S.rf⟩
  have hl := lv_entry ([.ref (ly 1), .int a1]) (n := 2) (Nat.le_of_ble_eq_true rfl)
  rw [lg_entry_eq]
  generalize (lg_sl ([.ref (ly 1), .int a1]) ++ List.replicate (2 - (lg_sl ([.ref (ly 1), .int a1])).length) Slot.unset).toArray = ls at hl ⊢
  have hl : lv_has ls 2 [(0, .ref (ly 1)), (1, .int a1)] := hl
  rw [wp_X4_needSign] at hw
  refine lv_aload_n hx hb dX4_needSign_0 rfl (lv_at hl 0 rfl) ?_
  refine lv_iload_n hx hb dX4_needSign_1 rfl (lv_at hl 1 rfl) ?_
  refine k_afti (va_runV (As := [.int a1]) (rest := []) ⟨hx, hb, hml, hown, hts⟩ (c_X4_isSign l D kA ly n hn A a1 S _) (cwV 1 hts gX4_needSign_X4_isSign rfl rfl rfl (by decide +kernel) ⟨(Nat.le_of_ble_eq_true rfl), (Nat.le_of_ble_eq_true rfl)⟩) ⟨k_blind, (k_recv hK hH (lt_n hn (by decide)) Ec_1 rfl), k_pre hK hN hH hw⟩ rfl rfl hl.1 rfl (lv_room (Nat.le_of_ble_eq_true rfl)) dX4_needSign_2 ⟨Nat.le_refl _, Nat.le_refl _⟩) hH (fun r2 S1 H locs hw hH => ?_)
  refine lv_if_ne (tgt := 12) hx hb dX4_needSign_5 (by decide) (fun hc3 => ?_) (fun hc3 => ?_)
  · replace hw := hw.2 hc3
    exact k_vret hx hb hr hlocks hK hN hH hw dX4_needSign_12
  · replace hw := hw.1 hc3
    refine lv_aload_n hx hb dX4_needSign_8 rfl (lv_at hl 0 rfl) ?_
    refine k_aftv (va_runV (As := []) (rest := []) ⟨hx, hb, hml, hown, hts⟩ (c_X4_fail l D kA ly n hn A S1 _) (cwV 0 hts gX4_needSign_X4_fail rfl rfl rfl (by decide +kernel) ⟨(Nat.le_of_ble_eq_true rfl), (Nat.le_of_ble_eq_true rfl)⟩) ⟨k_blind, (k_recv hK hH (lt_n hn (by decide)) Ec_1 rfl), k_pre hK hN hH hw⟩ rfl rfl hl.1 rfl (lv_room (Nat.le_of_ble_eq_true rfl)) dX4_needSign_9 ⟨Nat.le_refl _, Nat.le_refl _⟩) hH (fun S4 H locs hw hH => ?_)
    exact k_vret hx hb hr hlocks hK hN hH hw dX4_needSign_12
def wp_X11_viewSlot (a0 : Int32) (a1 : Int32) (S : St) (Q : Int32 → St → Prop) : Prop := Q ((a0 * (50 : Int32)) + a1) S
set_option maxHeartbeats 4000000 in
set_option maxRecDepth 100000 in
theorem c_X11_viewSlot (l : Launch) (D : va_G) (kA : Nat → ClassId) (ly : Nat → Nat) (n : List Nat) (hn : ∀ c, c < 59 → c ∈ n) (A : Nat → Prop) (a0 : Int32) (a1 : Int32) : Ci l yX11_viewSlot wsX11_viewSlot 0 0 (Gp D (Ec kA ly) ly n A kA) A [.int a0, .int a1] (wp_X11_viewSlot a0 a1) := by
  intro S Q
  refine Met.ofW (cc := cX11_viewSlot) (maxL := 2) (ret := (some .int)) (by decide) rfl ?_
  intro p e s m args below meth c s₁ B hml hv
  obtain ⟨rfl, ⟨hP, hD, hK, hN⟩, hw⟩ := hv
  have hx := B.exec
  have hb := B.bytes
  have hr := B.returns
  have hts := atoms_spec (ws := wsX11_viewSlot) B.pre
  have hown : s.vm.findClass RX11 = some m.cls := findClass_of_methodNamed B.named
  have hlocks := B.notSynchronized
  have hH : Hp D (Ec kA ly) ly n A s.heap S s.heap [] := ⟨hP, hD, va_S.rf⟩
  have hl := lv_entry ([.int a0, .int a1]) (n := 2) (Nat.le_of_ble_eq_true rfl)
  rw [lg_entry_eq]
  generalize (lg_sl ([.int a0, .int a1]) ++ List.replicate (2 - (lg_sl ([.int a0, .int a1])).length) Slot.unset).toArray = ls at hl ⊢
  have hl : lv_has ls 2 [(0, .int a0), (1, .int a1)] := hl
  rw [wp_X11_viewSlot] at hw
  refine lv_iload_n hx hb dX11_viewSlot_0 rfl (lv_at hl 0 rfl) ?_
  refine lv_bipush (v := 50) hx hb dX11_viewSlot_1 (by decide +kernel) ?_
  refine lv_imul hx hb dX11_viewSlot_3 ?_
  refine lv_iload_n hx hb dX11_viewSlot_4 rfl (lv_at hl 1 rfl) ?_
  refine lv_iadd hx hb dX11_viewSlot_5 ?_
  exact k_iret hx hb hr hlocks hK hN hH hw dX11_viewSlot_6
def wp_X11_loveSlot (a0 : Int32) (a1 : Int32) (S : St) (Q : Int32 → St → Prop) : Prop := Q ((a0 * (4 : Int32)) + a1) S
set_option maxHeartbeats 4000000 in
set_option maxRecDepth 100000 in
theorem c_X11_loveSlot (l : Launch) (D : va_G) (kA : Nat → ClassId) (ly : Nat → Nat) (n : List Nat) (hn : ∀ c, c < 59 → c ∈ n) (A : Nat → Prop) (a0 : Int32) (a1 : Int32) : Ci l yX11_loveSlot wsX11_loveSlot 0 0 (Gp D (Ec kA ly) ly n A kA) A [.int a0, .int a1] (wp_X11_loveSlot a0 a1) := by
  intro S Q
  refine Met.ofW (cc := cX11_loveSlot) (maxL := 2) (ret := (some .int)) (by decide) rfl ?_
  intro p e s m args below meth c s₁ B hml hv
  obtain ⟨rfl, ⟨hP, hD, hK, hN⟩, hw⟩ := hv
  have hx := B.exec
  have hb := B.bytes
  have hr := B.returns
  have hts := atoms_spec (ws := wsX11_loveSlot) B.pre
  have hown : s.vm.findClass RX11 = some m.cls := findClass_of_methodNamed B.named
  have hlocks := B.notSynchronized
  have hH : Hp D (Ec kA ly) ly n A s.heap S s.heap [] := ⟨hP, hD, va_S.rf⟩
  have hl := lv_entry ([.int a0, .int a1]) (n := 2) (Nat.le_of_ble_eq_true rfl)
  rw [lg_entry_eq]
  generalize (lg_sl ([.int a0, .int a1]) ++ List.replicate (2 - (lg_sl ([.int a0, .int a1])).length) Slot.unset).toArray = ls at hl ⊢
  have hl : lv_has ls 2 [(0, .int a0), (1, .int a1)] := hl
  rw [wp_X11_loveSlot] at hw
  refine lv_iload_n hx hb dX11_loveSlot_0 rfl (lv_at hl 0 rfl) ?_
  refine lv_iconst (v := 4) hx hb dX11_loveSlot_1 (by decide +kernel) ?_
  refine lv_imul hx hb dX11_loveSlot_2 ?_
  refine lv_iload_n hx hb dX11_loveSlot_3 rfl (lv_at hl 1 rfl) ?_
  refine lv_iadd hx hb dX11_loveSlot_4 ?_
  exact k_iret hx hb hr hlocks hK hN hH hw dX11_loveSlot_5
def wl_X4_readLove_9 (a1 : Nat) (r2 : Int32) (K_9 : Int32 → St → Prop) : Nat → Int32 → St → Prop
  | 0, _, _ => False
  | fu_9 + 1, v3_9, S_9 => (((4 : Int32) ≤ v3_9 → K_9 v3_9 S_9) ∧ (¬ (4 : Int32) ≤ v3_9 → wp_X11_loveSlot r2 v3_9 S_9 (fun r5 S4 => wp_X4_readNumber (0 : Int32) (9 : Int32) S4 (fun r7 S6 => (vp_in r5 12 ∧ ∀ S9 : St, S9 = sA S6 (a1 + 2) r5.toNatClampNeg r7 → (∀ t10 : Int32, t10 = v3_9 + 1 → wl_X4_readLove_9 a1 r2 K_9 fu_9 t10 S9))))))
def wp_X4_readLove (a1 : Nat) (S : St) (Q : St → Prop) : Prop := (isW a1 ∧ wp_X4_readNumber (0 : Int32) (2 : Int32) S (fun r2 S1 => (∃ m_9 : Nat, wl_X4_readLove_9 a1 r2 (fun e3_11 S12 => Q S12) m_9 (0 : Int32) S1)))
set_option maxHeartbeats 4000000 in
set_option maxRecDepth 100000 in
theorem c_X4_readLove (l : Launch) (D : va_G) (kA : Nat → ClassId) (ly : Nat → Nat) (n : List Nat) (hn : ∀ c, c < 59 → c ∈ n) (A : Nat → Prop) (a1 : Nat) : Cv l yX4_readLove wsX4_readLove 2 44 (Gp D (Ec kA ly) ly n A kA) A [.ref (ly 1), .ref (ly a1)] (wp_X4_readLove a1) := by
  intro S Q
  refine Met.ofW (cc := cX4_readLove) (maxL := 4) (ret := none) (by decide) rfl ?_
  intro p e s m args below meth c s₁ B hml hv
  obtain ⟨rfl, ⟨hP, hD, hK, hN⟩, hw⟩ := hv
  have hx := B.exec
  have hb := B.bytes
  have hr := B.returns
  have hts := atoms_spec (ws := wsX4_readLove) B.pre
  have hown : s.vm.findClass RX4 = some m.cls := findClass_of_methodNamed B.named
  have hlocks := B.notSynchronized
  have hH : Hp D (Ec kA ly) ly n A s.heap S s.heap [] := ⟨hP, hD, va_S.rf⟩
  have hiX10 : ∀ w ∈ u_ws RX10 TX10 6, w ∈ wsX4_readLove := by decide +kernel
  have lk0 := hts (.fieldLink RX4 116 "SlowPanes$World" "loves" "[I") (by decide +kernel)
  have lk1 := hts (.initialized RX11) (by decide +kernel)
  have lk2 := hts (.static yX11_loveSlot) (by decide +kernel)
  have hl := lv_entry ([.ref (ly 1), .ref (ly a1)]) (n := 4) (Nat.le_of_ble_eq_true rfl)
  rw [lg_entry_eq]
  generalize (lg_sl ([.ref (ly 1), .ref (ly a1)]) ++ List.replicate (4 - (lg_sl ([.ref (ly 1), .ref (ly a1)])).length) Slot.unset).toArray = ls at hl ⊢
  have hl : lv_has ls 4 [(0, .ref (ly 1)), (1, .ref (ly a1))] := hl
  rw [wp_X4_readLove] at hw
  obtain ⟨ha1, hw⟩ := hw
  refine lv_aload_n hx hb dX4_readLove_0 rfl (lv_at hl 0 rfl) ?_
  refine lv_iconst (v := 0) hx hb dX4_readLove_1 (by decide +kernel) ?_
  refine lv_iconst (v := 2) hx hb dX4_readLove_2 (by decide +kernel) ?_
  refine k_afti (va_runV (As := [.int (0 : Int32), .int (2 : Int32)]) (rest := []) ⟨hx, hb, hml, hown, hts⟩ (c_X4_readNumber l D kA ly n hn A (0 : Int32) (2 : Int32) S _) (cwV 2 hts gX4_readLove_X4_readNumber rfl rfl rfl (by decide +kernel) ⟨(Nat.le_of_ble_eq_true rfl), (Nat.le_of_ble_eq_true rfl)⟩) ⟨k_blind, (k_recv hK hH (lt_n hn (by decide)) Ec_1 rfl), k_pre hK hN hH hw⟩ rfl rfl hl.1 rfl (lv_room (Nat.le_of_ble_eq_true rfl)) dX4_readLove_3 ⟨Nat.le_refl _, Nat.le_refl _⟩) hH (fun r2 S1 H locs hw hH => ?_)
  refine lv_istore_n (lv' := [(2, .int r2), (0, .ref (ly 1)), (1, .ref (ly a1))]) hx hb dX4_readLove_6 rfl hl (by decide) rfl (fun ls hl => ?_)
  refine lv_iconst (v := 0) hx hb dX4_readLove_7 (by decide +kernel) ?_
  refine lv_istore_n (lv' := [(3, .int (0 : Int32)), (2, .int r2), (0, .ref (ly 1)), (1, .ref (ly a1))]) hx hb dX4_readLove_8 rfl hl (by decide) rfl (fun ls hl => ?_)
  have L_9 : ∀ (K_9 : Int32 → St → Prop) (hk_9 : ∀ (v3_9 : Int32) (S_9 : St) (H : Heap) (locs : List Loc) (ls : Array Slot), K_9 v3_9 S_9 → Hp D (Ec kA ly) ly n A s.heap S_9 H locs → lv_has ls 4 [(0, .ref (ly 1)), (1, .ref (ly a1)), (2, .int r2), (3, .int v3_9)] → W p l e (headSpec wsX4_readLove { frames := 2, cells := 0, slots := 0, locals := 44 }).room s m [.ref (ly 1), .ref (ly a1)].toArray below meth c H locs 0 0 (MQ below (va_Qv Q (Gp D (Ec kA ly) ly n A kA) A) [.ref (ly 1), .ref (ly a1)].toArray s 0 0 A) (F0 m 37 ls [])) (fu_9 : Nat) (v3_9 : Int32) (S_9 : St) (H : Heap) (locs : List Loc) (ls : Array Slot), wl_X4_readLove_9 a1 r2 K_9 fu_9 v3_9 S_9 → Hp D (Ec kA ly) ly n A s.heap S_9 H locs → lv_has ls 4 [(0, .ref (ly 1)), (1, .ref (ly a1)), (2, .int r2), (3, .int v3_9)] → W p l e (headSpec wsX4_readLove { frames := 2, cells := 0, slots := 0, locals := 44 }).room s m [.ref (ly 1), .ref (ly a1)].toArray below meth c H locs 0 0 (MQ below (va_Qv Q (Gp D (Ec kA ly) ly n A kA) A) [.ref (ly 1), .ref (ly a1)].toArray s 0 0 A) (F0 m 9 ls []) := by
    intro K_9 hk_9 fu_9
    induction fu_9 with
    | zero => intro v3_9 S_9 H locs ls hw hH hl; rw [wl_X4_readLove_9] at hw; exact hw.elim
    | succ fu_9 ih_9 =>
      intro v3_9 S_9 H locs ls hw hH hl
      rw [wl_X4_readLove_9] at hw
      refine lv_iload_n hx hb dX4_readLove_9 rfl (lv_at hl 3 rfl) ?_
      refine lv_iconst (v := 4) hx hb dX4_readLove_10 (by decide +kernel) ?_
      refine lv_icmp_ge (tgt := 37) hx hb dX4_readLove_11 (by decide) (fun hc3 => ?_) (fun hc3 => ?_)
      · replace hw := hw.1 hc3
        exact hk_9 v3_9 S_9 _ _ ls hw hH (lv_sub hl [0, 1, 2, 3] rfl)
      · replace hw := hw.2 hc3
        refine lv_aload_n hx hb dX4_readLove_14 rfl (lv_at hl 1 rfl) ?_
        refine gf_w_1 hx hb hts hiX10 hown hK hn hH ha1 lk0 dX4_readLove_15 ?_
        refine lv_iload_n hx hb dX4_readLove_18 rfl (lv_at hl 2 rfl) ?_
        refine lv_iload_n hx hb dX4_readLove_19 rfl (lv_at hl 3 rfl) ?_
        refine k_afti (va_runSN (As := [.int r2, .int v3_9]) (rest := [.ref (ly (a1 + 2))]) ⟨hx, hb, hml, hown, hts⟩ (c_X11_loveSlot l D kA ly n hn A r2 v3_9 S_9 _) ⟨va_cnB 2 hts gX4_readLove_X11_loveSlot_n119 rfl rfl rfl (hN _ (List.mem_of_getElem? (i := 5) rfl)) lk1 (by decide +kernel) ⟨(Nat.le_of_ble_eq_true rfl), (Nat.le_of_ble_eq_true rfl)⟩, lk2, trivial⟩ ⟨k_blind, k_pre hK hN hH hw⟩ rfl rfl hl.1 rfl (lv_room (Nat.le_of_ble_eq_true rfl)) dX4_readLove_20 ⟨Nat.le_refl _, Nat.le_refl _⟩) hH (fun r5 S4 H locs hw hH => ?_)
        refine lv_aload_n hx hb dX4_readLove_23 rfl (lv_at hl 0 rfl) ?_
        refine lv_iconst (v := 0) hx hb dX4_readLove_24 (by decide +kernel) ?_
        refine lv_bipush (v := 9) hx hb dX4_readLove_25 (by decide +kernel) ?_
        refine k_afti (va_runV (As := [.int (0 : Int32), .int (9 : Int32)]) (rest := [.int r5, .ref (ly (a1 + 2))]) ⟨hx, hb, hml, hown, hts⟩ (c_X4_readNumber l D kA ly n hn A (0 : Int32) (9 : Int32) S4 _) (cwV 2 hts gX4_readLove_X4_readNumber rfl rfl rfl (by decide +kernel) ⟨(Nat.le_of_ble_eq_true rfl), (Nat.le_of_ble_eq_true rfl)⟩) ⟨k_blind, (k_recv hK hH (lt_n hn (by decide)) Ec_1 rfl), k_pre hK hN hH hw⟩ rfl rfl hl.1 rfl (lv_room (Nat.le_of_ble_eq_true rfl)) dX4_readLove_27 ⟨Nat.le_refl _, Nat.le_refl _⟩) hH (fun r7 S6 H locs hw hH => ?_)
        obtain ⟨hi_8, hw⟩ := hw
        refine k_ist hx hb hK hH (w_lt hn ha1 2 (by decide)) (fun _ => (Ec_wl ha1)) hi_8 dX4_readLove_30 (fun S9 H locs eS9 hH => ?_)
        replace hw := hw S9 eS9
        obtain ⟨t10, et10⟩ : ∃ y : Int32, y = v3_9 + 1 := ⟨_, rfl⟩
        replace hw := hw t10 et10
        refine lv_iinc (v := t10) (lv' := [(3, .int t10), (0, .ref (ly 1)), (1, .ref (ly a1)), (2, .int r2)]) hx hb dX4_readLove_31 hl (k := 3) rfl (by rw [et10]; rfl) (by decide) rfl (fun ls hl => ?_)
        refine lv_goto (tgt := 9) hx hb dX4_readLove_34 (by decide) ?_
        exact ih_9 t10 S9 _ _ ls hw hH (lv_sub hl [1, 2, 3, 0] rfl)
  obtain ⟨m_9, hw⟩ := hw
  refine L_9 _ (fun e3_11 S12 H locs ls hw hH hl => ?_) m_9 (0 : Int32) S1 _ _ ls hw hH (lv_sub hl [2, 3, 1, 0] rfl)
  exact k_vret hx hb hr hlocks hK hN hH hw dX4_readLove_37
