def wp_X11_lay (a1 : Int32) (a2 : Int32) (S : St) (Q : Int32 → St → Prop) : Prop := wp_X11_isPane a1 S (fun r2 S1 => ((r2 = 0 → Q (-1 : Int32) S1) ∧ (¬ r2 = 0 → wp_X11_isPane a2 S1 (fun r5 S4 => ((r5 = 0 → Q (-1 : Int32) S4) ∧ (¬ r5 = 0 → ((a1 = a2 → Q (-1 : Int32) S4) ∧ (¬ a1 = a2 → (∀ o8 : Nat, o8 = (gN S4 0 8) → isW o8 ∧ (vp_in a1 6 ∧ ∀ o10 : Nat, o10 = gN S4 (o8 + 3) a1.toNatClampNeg → isPn o10 ∧ (vp_in a2 6 ∧ ∀ o12 : Nat, o12 = gN S4 (o8 + 3) a2.toNatClampNeg → isPn o12 ∧ ((((gI S4 o10 3) + (gI S4 o12 3)) ≤ (16 : Int32) → wp_X3_append o10 o12 S4 (fun S14 => (∀ o15 : Nat, o15 = (gN S14 0 8) → isW o15 ∧ wp_X10_removePane o15 a2 S14 (fun S16 => ((a1 ≤ a2 → Q a1 S16) ∧ (¬ a1 ≤ a2 → Q (a1 - (1 : Int32)) S16)))))) ∧ (¬ ((gI S4 o10 3) + (gI S4 o12 3)) ≤ (16 : Int32) → Q (-2 : Int32) S4)))))))))))))
set_option maxHeartbeats 4000000 in
set_option maxRecDepth 100000 in
theorem c_X11_lay (l : Launch) (D : va_G) (kA : Nat → ClassId) (ly : Nat → Nat) (n : List Nat) (hn : ∀ c, c < 59 → c ∈ n) (A : Nat → Prop) (a1 : Int32) (a2 : Int32) : Ci l yX11_lay wsX11_lay 2 44 (Gp D (Ec kA ly) ly n A kA) A [.ref (ly 0), .int a1, .int a2] (wp_X11_lay a1 a2) := by
  intro S Q
  refine Met.ofW (cc := cX11_lay) (maxL := 5) (ret := (some .int)) (by decide) rfl ?_
  intro p e s m args below meth c s₁ B hml hv
  obtain ⟨rfl, ⟨hP, hD, hK, hN⟩, hw⟩ := hv
  have hx := B.exec
  have hb := B.bytes
  have hr := B.returns
  have hts := atoms_spec (ws := wsX11_lay) B.pre
  have hown : s.vm.findClass RX11 = some m.cls := findClass_of_methodNamed B.named
  have hlocks := B.notSynchronized
  have hH : Hp D (Ec kA ly) ly n A s.heap S s.heap [] := ⟨hP, hD, va_S.rf⟩
  have hiX11 : ∀ w ∈ u_ws RX11 TX11 12, w ∈ wsX11_lay := by decide +kernel
  have hiX10 : ∀ w ∈ u_ws RX10 TX10 6, w ∈ wsX11_lay := by decide +kernel
  have hiX3 : ∀ w ∈ u_ws RX3 TX3 5, w ∈ wsX11_lay := by decide +kernel
  have lk0 := hts (.fieldLink RX11 53 "SlowPanes" "world" "LSlowPanes$World;") (by decide +kernel)
  have lk1 := hts (.fieldLink RX11 124 "SlowPanes$World" "panes" "[LSlowPanes$Pane;") (by decide +kernel)
  have lk2 := hts (.fieldLink RX11 131 "SlowPanes$Pane" "count" "I") (by decide +kernel)
  have hl := lv_entry ([.ref (ly 0), .int a1, .int a2]) (n := 5) (Nat.le_of_ble_eq_true rfl)
  rw [lg_entry_eq]
  generalize (lg_sl ([.ref (ly 0), .int a1, .int a2]) ++ List.replicate (5 - (lg_sl ([.ref (ly 0), .int a1, .int a2])).length) Slot.unset).toArray = ls at hl ⊢
  have hl : lv_has ls 5 [(0, .ref (ly 0)), (1, .int a1), (2, .int a2)] := hl
  rw [wp_X11_lay] at hw
  refine lv_aload_n hx hb dX11_lay_0 rfl (lv_at hl 0 rfl) ?_
  refine lv_iload_n hx hb dX11_lay_1 rfl (lv_at hl 1 rfl) ?_
  refine k_afti (va_runV (As := [.int a1]) (rest := []) ⟨hx, hb, hml, hown, hts⟩ (c_X11_isPane l D kA ly n hn A a1 S _) (cwV 1 hts gX11_lay_X11_isPane rfl rfl rfl (by decide +kernel) ⟨(Nat.le_of_ble_eq_true rfl), (Nat.le_of_ble_eq_true rfl)⟩) ⟨k_blind, (k_recv hK hH (lt_n hn (by decide)) Ec_0 rfl), k_pre hK hN hH hw⟩ rfl rfl hl.1 rfl (lv_room (Nat.le_of_ble_eq_true rfl)) dX11_lay_2 ⟨Nat.le_refl _, Nat.le_refl _⟩) hH (fun r2 S1 H locs hw hH => ?_)
  refine lv_if_eq (tgt := 21) hx hb dX11_lay_5 (by decide) (fun hc3 => ?_) (fun hc3 => ?_)
  · replace hw := hw.1 hc3
    refine lv_iconst (v := -1) hx hb dX11_lay_21 (by decide +kernel) ?_
    exact k_iret hx hb hr hlocks hK hN hH hw dX11_lay_22
  · replace hw := hw.2 hc3
    refine lv_aload_n hx hb dX11_lay_8 rfl (lv_at hl 0 rfl) ?_
    refine lv_iload_n hx hb dX11_lay_9 rfl (lv_at hl 2 rfl) ?_
    refine k_afti (va_runV (As := [.int a2]) (rest := []) ⟨hx, hb, hml, hown, hts⟩ (c_X11_isPane l D kA ly n hn A a2 S1 _) (cwV 1 hts gX11_lay_X11_isPane rfl rfl rfl (by decide +kernel) ⟨(Nat.le_of_ble_eq_true rfl), (Nat.le_of_ble_eq_true rfl)⟩) ⟨k_blind, (k_recv hK hH (lt_n hn (by decide)) Ec_0 rfl), k_pre hK hN hH hw⟩ rfl rfl hl.1 rfl (lv_room (Nat.le_of_ble_eq_true rfl)) dX11_lay_10 ⟨Nat.le_refl _, Nat.le_refl _⟩) hH (fun r5 S4 H locs hw hH => ?_)
    refine lv_if_eq (tgt := 21) hx hb dX11_lay_13 (by decide) (fun hc6 => ?_) (fun hc6 => ?_)
    · replace hw := hw.1 hc6
      refine lv_iconst (v := -1) hx hb dX11_lay_21 (by decide +kernel) ?_
      exact k_iret hx hb hr hlocks hK hN hH hw dX11_lay_22
    · replace hw := hw.2 hc6
      refine lv_iload_n hx hb dX11_lay_16 rfl (lv_at hl 1 rfl) ?_
      refine lv_iload_n hx hb dX11_lay_17 rfl (lv_at hl 2 rfl) ?_
      refine lv_icmp_ne (tgt := 23) hx hb dX11_lay_18 (by decide) (fun hc7 => ?_) (fun hc7 => ?_)
      · replace hw := hw.2 hc7
        refine lv_aload_n hx hb dX11_lay_23 rfl (lv_at hl 0 rfl) ?_
        refine gf_this_8 hx hb hts hiX11 hown hK hn hH lk0 dX11_lay_24 ?_
        obtain ⟨o8, eo8⟩ : ∃ y : Nat, y = (gN S4 0 8) := ⟨_, rfl⟩
        obtain ⟨ho8, hw⟩ := hw o8 eo8
        rw [← eo8]
        refine gf_w_2 hx hb hts hiX10 hown hK hn hH ho8 lk1 dX11_lay_27 ?_
        refine lv_iload_n hx hb dX11_lay_30 rfl (lv_at hl 1 rfl) ?_
        obtain ⟨hi_9, hw⟩ := hw
        obtain ⟨o10, eo10⟩ : ∃ y : Nat, y = gN S4 (o8 + 3) a1.toNatClampNeg := ⟨_, rfl⟩
        obtain ⟨ho10, hw⟩ := hw o10 eo10
        refine k_ald (t0 := 1) (v := .ref (ly o10)) hx hb hK hH (w_lt hn ho8 3 (by decide)) rfl (Ec_wp ho8) hi_9 (by rw [eo10]; rfl) dX11_lay_31 ?_
        refine lv_astore_n (lv' := [(3, .ref (ly o10)), (0, .ref (ly 0)), (1, .int a1), (2, .int a2)]) hx hb dX11_lay_32 rfl hl (by decide) rfl (fun ls hl => ?_)
        refine lv_aload_n hx hb dX11_lay_33 rfl (lv_at hl 1 rfl) ?_
        refine gf_this_8 hx hb hts hiX11 hown hK hn hH lk0 dX11_lay_34 ?_
        rw [← eo8]
        refine gf_w_2 hx hb hts hiX10 hown hK hn hH ho8 lk1 dX11_lay_37 ?_
        refine lv_iload_n hx hb dX11_lay_40 rfl (lv_at hl 3 rfl) ?_
        obtain ⟨hi_11, hw⟩ := hw
        obtain ⟨o12, eo12⟩ : ∃ y : Nat, y = gN S4 (o8 + 3) a2.toNatClampNeg := ⟨_, rfl⟩
        obtain ⟨ho12, hw⟩ := hw o12 eo12
        refine k_ald (t0 := 1) (v := .ref (ly o12)) hx hb hK hH (w_lt hn ho8 3 (by decide)) rfl (Ec_wp ho8) hi_11 (by rw [eo12]; rfl) dX11_lay_41 ?_
        refine lv_astore (lv' := [(4, .ref (ly o12)), (3, .ref (ly o10)), (0, .ref (ly 0)), (1, .int a1), (2, .int a2)]) hx hb dX11_lay_42 hl (by decide) rfl (fun ls hl => ?_)
        refine lv_aload_n hx hb dX11_lay_44 rfl (lv_at hl 1 rfl) ?_
        refine gf_pn_3 hx hb hts hiX3 hown hK hn hH ho10 lk2 dX11_lay_45 ?_
        refine lv_aload hx hb dX11_lay_48 (lv_at hl 0 rfl) ?_
        refine gf_pn_3 hx hb hts hiX3 hown hK hn hH ho12 lk2 dX11_lay_50 ?_
        refine lv_iadd hx hb dX11_lay_53 ?_
        refine lv_bipush (v := 16) hx hb dX11_lay_54 (by decide +kernel) ?_
        refine lv_icmp_le (tgt := 62) hx hb dX11_lay_56 (by decide) (fun hc13 => ?_) (fun hc13 => ?_)
        · replace hw := hw.1 hc13
          refine lv_aload_n hx hb dX11_lay_62 rfl (lv_at hl 1 rfl) ?_
          refine lv_aload hx hb dX11_lay_63 (lv_at hl 0 rfl) ?_
          refine k_aftv (va_runV (As := [.ref (ly o12)]) (rest := []) ⟨hx, hb, hml, hown, hts⟩ (c_X3_append l D kA ly n hn A o10 o12 S4 _) (cwV 1 hts gX11_lay_X3_append rfl rfl rfl (by decide +kernel) ⟨(Nat.le_of_ble_eq_true rfl), (Nat.le_of_ble_eq_true rfl)⟩) ⟨k_blind, (k_recv hK hH (pn_lt hn ho10) (Ec_pn ho10) rfl), k_pre hK hN hH hw⟩ rfl rfl hl.1 rfl (lv_room (Nat.le_of_ble_eq_true rfl)) dX11_lay_65 ⟨Nat.le_refl _, Nat.le_refl _⟩) hH (fun S14 H locs hw hH => ?_)
          refine lv_aload_n hx hb dX11_lay_68 rfl (lv_at hl 2 rfl) ?_
          refine gf_this_8 hx hb hts hiX11 hown hK hn hH lk0 dX11_lay_69 ?_
          obtain ⟨o15, eo15⟩ : ∃ y : Nat, y = (gN S14 0 8) := ⟨_, rfl⟩
          obtain ⟨ho15, hw⟩ := hw o15 eo15
          rw [← eo15]
          refine lv_iload_n hx hb dX11_lay_72 rfl (lv_at hl 4 rfl) ?_
          refine k_aftv (va_runV (As := [.int a2]) (rest := []) ⟨hx, hb, hml, hown, hts⟩ (c_X10_removePane l D kA ly n hn A o15 a2 S14 _) (cwV 1 hts gX11_lay_X10_removePane rfl rfl rfl (by decide +kernel) ⟨(Nat.le_of_ble_eq_true rfl), (Nat.le_of_ble_eq_true rfl)⟩) ⟨k_blind, (k_recv hK hH (w_lt0 hn ho15) (Ec_w ho15) rfl), k_pre hK hN hH hw⟩ rfl rfl hl.1 rfl (lv_room (Nat.le_of_ble_eq_true rfl)) dX11_lay_73 ⟨Nat.le_refl _, Nat.le_refl _⟩) hH (fun S16 H locs hw hH => ?_)
          refine lv_iload_n hx hb dX11_lay_76 rfl (lv_at hl 3 rfl) ?_
          refine lv_iload_n hx hb dX11_lay_77 rfl (lv_at hl 4 rfl) ?_
          refine lv_icmp_le (tgt := 87) hx hb dX11_lay_78 (by decide) (fun hc17 => ?_) (fun hc17 => ?_)
          · replace hw := hw.1 hc17
            refine lv_iload_n hx hb dX11_lay_87 rfl (lv_at hl 3 rfl) ?_
            exact k_iret hx hb hr hlocks hK hN hH hw dX11_lay_88
          · replace hw := hw.2 hc17
            refine lv_iload_n hx hb dX11_lay_81 rfl (lv_at hl 3 rfl) ?_
            refine lv_iconst (v := 1) hx hb dX11_lay_82 (by decide +kernel) ?_
            refine lv_isub hx hb dX11_lay_83 ?_
            refine lv_goto (tgt := 88) hx hb dX11_lay_84 (by decide) ?_
            exact k_iret hx hb hr hlocks hK hN hH hw dX11_lay_88
        · replace hw := hw.2 hc13
          refine lv_bipush (v := -2) hx hb dX11_lay_59 (by decide +kernel) ?_
          exact k_iret hx hb hr hlocks hK hN hH hw dX11_lay_61
      · replace hw := hw.1 hc7
        refine lv_iconst (v := -1) hx hb dX11_lay_21 (by decide +kernel) ?_
        exact k_iret hx hb hr hlocks hK hN hH hw dX11_lay_22
def wp_X11_drop (a1 : Int32) (S : St) (Q : Int32 → St → Prop) : Prop := wp_X11_isPane a1 S (fun r2 S1 => ((r2 = 0 → Q (-1 : Int32) S1) ∧ (¬ r2 = 0 → (∀ o4 : Nat, o4 = (gN S1 0 8) → isW o4 ∧ wp_X10_removePane o4 a1 S1 (fun S5 => (∀ o6 : Nat, o6 = (gN S5 0 8) → isW o6 ∧ Q (gI S5 o6 3) S5))))))
set_option maxHeartbeats 4000000 in
set_option maxRecDepth 100000 in
theorem c_X11_drop (l : Launch) (D : va_G) (kA : Nat → ClassId) (ly : Nat → Nat) (n : List Nat) (hn : ∀ c, c < 59 → c ∈ n) (A : Nat → Prop) (a1 : Int32) : Ci l yX11_drop wsX11_drop 1 23 (Gp D (Ec kA ly) ly n A kA) A [.ref (ly 0), .int a1] (wp_X11_drop a1) := by
  intro S Q
  refine Met.ofW (cc := cX11_drop) (maxL := 2) (ret := (some .int)) (by decide) rfl ?_
  intro p e s m args below meth c s₁ B hml hv
  obtain ⟨rfl, ⟨hP, hD, hK, hN⟩, hw⟩ := hv
  have hx := B.exec
  have hb := B.bytes
  have hr := B.returns
  have hts := atoms_spec (ws := wsX11_drop) B.pre
  have hown : s.vm.findClass RX11 = some m.cls := findClass_of_methodNamed B.named
  have hlocks := B.notSynchronized
  have hH : Hp D (Ec kA ly) ly n A s.heap S s.heap [] := ⟨hP, hD, va_S.rf⟩
  have hiX11 : ∀ w ∈ u_ws RX11 TX11 12, w ∈ wsX11_drop := by decide +kernel
  have hiX10 : ∀ w ∈ u_ws RX10 TX10 6, w ∈ wsX11_drop := by decide +kernel
  have lk0 := hts (.fieldLink RX11 53 "SlowPanes" "world" "LSlowPanes$World;") (by decide +kernel)
  have lk1 := hts (.fieldLink RX11 84 "SlowPanes$World" "count" "I") (by decide +kernel)
  have hl := lv_entry ([.ref (ly 0), .int a1]) (n := 2) (Nat.le_of_ble_eq_true rfl)
  rw [lg_entry_eq]
  generalize (lg_sl ([.ref (ly 0), .int a1]) ++ List.replicate (2 - (lg_sl ([.ref (ly 0), .int a1])).length) Slot.unset).toArray = ls at hl ⊢
  have hl : lv_has ls 2 [(0, .ref (ly 0)), (1, .int a1)] := hl
  rw [wp_X11_drop] at hw
  refine lv_aload_n hx hb dX11_drop_0 rfl (lv_at hl 0 rfl) ?_
  refine lv_iload_n hx hb dX11_drop_1 rfl (lv_at hl 1 rfl) ?_
  refine k_afti (va_runV (As := [.int a1]) (rest := []) ⟨hx, hb, hml, hown, hts⟩ (c_X11_isPane l D kA ly n hn A a1 S _) (cwV 1 hts gX11_drop_X11_isPane rfl rfl rfl (by decide +kernel) ⟨(Nat.le_of_ble_eq_true rfl), (Nat.le_of_ble_eq_true rfl)⟩) ⟨k_blind, (k_recv hK hH (lt_n hn (by decide)) Ec_0 rfl), k_pre hK hN hH hw⟩ rfl rfl hl.1 rfl (lv_room (Nat.le_of_ble_eq_true rfl)) dX11_drop_2 ⟨Nat.le_refl _, Nat.le_refl _⟩) hH (fun r2 S1 H locs hw hH => ?_)
  refine lv_if_ne (tgt := 10) hx hb dX11_drop_5 (by decide) (fun hc3 => ?_) (fun hc3 => ?_)
  · replace hw := hw.2 hc3
    refine lv_aload_n hx hb dX11_drop_10 rfl (lv_at hl 0 rfl) ?_
    refine gf_this_8 hx hb hts hiX11 hown hK hn hH lk0 dX11_drop_11 ?_
    obtain ⟨o4, eo4⟩ : ∃ y : Nat, y = (gN S1 0 8) := ⟨_, rfl⟩
    obtain ⟨ho4, hw⟩ := hw o4 eo4
    rw [← eo4]
    refine lv_iload_n hx hb dX11_drop_14 rfl (lv_at hl 1 rfl) ?_
    refine k_aftv (va_runV (As := [.int a1]) (rest := []) ⟨hx, hb, hml, hown, hts⟩ (c_X10_removePane l D kA ly n hn A o4 a1 S1 _) (cwV 1 hts gX11_drop_X10_removePane rfl rfl rfl (by decide +kernel) ⟨(Nat.le_of_ble_eq_true rfl), (Nat.le_of_ble_eq_true rfl)⟩) ⟨k_blind, (k_recv hK hH (w_lt0 hn ho4) (Ec_w ho4) rfl), k_pre hK hN hH hw⟩ rfl rfl hl.1 rfl (lv_room (Nat.le_of_ble_eq_true rfl)) dX11_drop_15 ⟨Nat.le_refl _, Nat.le_refl _⟩) hH (fun S5 H locs hw hH => ?_)
    refine lv_aload_n hx hb dX11_drop_18 rfl (lv_at hl 0 rfl) ?_
    refine gf_this_8 hx hb hts hiX11 hown hK hn hH lk0 dX11_drop_19 ?_
    obtain ⟨o6, eo6⟩ : ∃ y : Nat, y = (gN S5 0 8) := ⟨_, rfl⟩
    obtain ⟨ho6, hw⟩ := hw o6 eo6
    rw [← eo6]
    refine gf_w_3 hx hb hts hiX10 hown hK hn hH ho6 lk1 dX11_drop_22 ?_
    exact k_iret hx hb hr hlocks hK hN hH hw dX11_drop_25
  · replace hw := hw.1 hc3
    refine lv_iconst (v := -1) hx hb dX11_drop_8 (by decide +kernel) ?_
    exact k_iret hx hb hr hlocks hK hN hH hw dX11_drop_9
def wl_X11_dark_34  (Q : Int32 → St → Prop) (K_34 : Int32 → St → Prop) : Nat → Int32 → St → Prop
  | 0, _, _ => False
  | fu_34 + 1, v2_34, S_34 => (((50 : Int32) ≤ v2_34 → K_34 v2_34 S_34) ∧ (¬ (50 : Int32) ≤ v2_34 → wp_X3_last 57 S_34 (fun r12 S11 => ((r12 = (-9 : Int32) → wp_X3_passDay 57 v2_34 S11 (fun S14 => (∀ t15 : Int32, t15 = v2_34 + 1 → wl_X11_dark_34 Q K_34 fu_34 t15 S14))) ∧ (¬ r12 = (-9 : Int32) → Q v2_34 S11)))))
def wp_X11_dark (a1 : Int32) (S : St) (Q : Int32 → St → Prop) : Prop := wp_X11_isPane a1 S (fun r2 S1 => ((r2 = 0 → Q (-1 : Int32) S1) ∧ (¬ r2 = 0 → (∀ o4 : Nat, o4 = (gN S1 0 8) → isW o4 ∧ (vp_in a1 6 ∧ ∀ o6 : Nat, o6 = gN S1 (o4 + 3) a1.toNatClampNeg → isPn o6 ∧ wp_X3_copyFrom 57 o6 S1 (fun S7 => (∀ o8 : Nat, o8 = (gN S7 0 8) → isW o8 ∧ (∀ t9 : Int32, t9 = (gI S7 o8 4) → (∃ m_34 : Nat, wl_X11_dark_34 Q (fun e2_16 S17 => Q (-3 : Int32) S17) m_34 t9 S7)))))))))
set_option maxHeartbeats 4000000 in
set_option maxRecDepth 100000 in
theorem c_X11_dark (l : Launch) (D : va_G) (kA : Nat → ClassId) (ly : Nat → Nat) (n : List Nat) (hn : ∀ c, c < 59 → c ∈ n) (A : Nat → Prop) (a1 : Int32) : Ci l yX11_dark wsX11_dark 2 81 (Gp D (Ec kA ly) ly n A kA) A [.ref (ly 0), .int a1] (wp_X11_dark a1) := by
  intro S Q
  refine Met.ofW (cc := cX11_dark) (maxL := 3) (ret := (some .int)) (by decide) rfl ?_
  intro p e s m args below meth c s₁ B hml hv
  obtain ⟨rfl, ⟨hP, hD, hK, hN⟩, hw⟩ := hv
  have hx := B.exec
  have hb := B.bytes
  have hr := B.returns
  have hts := atoms_spec (ws := wsX11_dark) B.pre
  have hown : s.vm.findClass RX11 = some m.cls := findClass_of_methodNamed B.named
  have hlocks := B.notSynchronized
  have hH : Hp D (Ec kA ly) ly n A s.heap S s.heap [] := ⟨hP, hD, va_S.rf⟩
  have hiX11 : ∀ w ∈ u_ws RX11 TX11 12, w ∈ wsX11_dark := by decide +kernel
  have hiX10 : ∀ w ∈ u_ws RX10 TX10 6, w ∈ wsX11_dark := by decide +kernel
  have lk0 := hts (.fieldLink RX11 12 "SlowPanes" "trial" "LSlowPanes$Pane;") (by decide +kernel)
  have lk1 := hts (.fieldLink RX11 53 "SlowPanes" "world" "LSlowPanes$World;") (by decide +kernel)
  have lk2 := hts (.fieldLink RX11 124 "SlowPanes$World" "panes" "[LSlowPanes$Pane;") (by decide +kernel)
  have lk3 := hts (.fieldLink RX11 140 "SlowPanes$World" "today" "I") (by decide +kernel)
  have hl := lv_entry ([.ref (ly 0), .int a1]) (n := 3) (Nat.le_of_ble_eq_true rfl)
  rw [lg_entry_eq]
  generalize (lg_sl ([.ref (ly 0), .int a1]) ++ List.replicate (3 - (lg_sl ([.ref (ly 0), .int a1])).length) Slot.unset).toArray = ls at hl ⊢
  have hl : lv_has ls 3 [(0, .ref (ly 0)), (1, .int a1)] := hl
  rw [wp_X11_dark] at hw
  refine lv_aload_n hx hb dX11_dark_0 rfl (lv_at hl 0 rfl) ?_
  refine lv_iload_n hx hb dX11_dark_1 rfl (lv_at hl 1 rfl) ?_
  refine k_afti (va_runV (As := [.int a1]) (rest := []) ⟨hx, hb, hml, hown, hts⟩ (c_X11_isPane l D kA ly n hn A a1 S _) (cwV 1 hts gX11_dark_X11_isPane rfl rfl rfl (by decide +kernel) ⟨(Nat.le_of_ble_eq_true rfl), (Nat.le_of_ble_eq_true rfl)⟩) ⟨k_blind, (k_recv hK hH (lt_n hn (by decide)) Ec_0 rfl), k_pre hK hN hH hw⟩ rfl rfl hl.1 rfl (lv_room (Nat.le_of_ble_eq_true rfl)) dX11_dark_2 ⟨Nat.le_refl _, Nat.le_refl _⟩) hH (fun r2 S1 H locs hw hH => ?_)
  refine lv_if_ne (tgt := 10) hx hb dX11_dark_5 (by decide) (fun hc3 => ?_) (fun hc3 => ?_)
  · replace hw := hw.2 hc3
    refine lv_aload_n hx hb dX11_dark_10 rfl (lv_at hl 0 rfl) ?_
    refine gf_this_0 hx hb hts hiX11 hown hK hn hH lk0 dX11_dark_11 ?_
    refine lv_aload_n hx hb dX11_dark_14 rfl (lv_at hl 0 rfl) ?_
    refine gf_this_8 hx hb hts hiX11 hown hK hn hH lk1 dX11_dark_15 ?_
    obtain ⟨o4, eo4⟩ : ∃ y : Nat, y = (gN S1 0 8) := ⟨_, rfl⟩
    obtain ⟨ho4, hw⟩ := hw o4 eo4
    rw [← eo4]
    refine gf_w_2 hx hb hts hiX10 hown hK hn hH ho4 lk2 dX11_dark_18 ?_
    refine lv_iload_n hx hb dX11_dark_21 rfl (lv_at hl 1 rfl) ?_
    obtain ⟨hi_5, hw⟩ := hw
    obtain ⟨o6, eo6⟩ : ∃ y : Nat, y = gN S1 (o4 + 3) a1.toNatClampNeg := ⟨_, rfl⟩
    obtain ⟨ho6, hw⟩ := hw o6 eo6
    refine k_ald (t0 := 1) (v := .ref (ly o6)) hx hb hK hH (w_lt hn ho4 3 (by decide)) rfl (Ec_wp ho4) hi_5 (by rw [eo6]; rfl) dX11_dark_22 ?_
    refine k_aftv (va_runV (As := [.ref (ly o6)]) (rest := []) ⟨hx, hb, hml, hown, hts⟩ (c_X3_copyFrom l D kA ly n hn A 57 o6 S1 _) (cwV 1 hts gX11_dark_X3_copyFrom rfl rfl rfl (by decide +kernel) ⟨(Nat.le_of_ble_eq_true rfl), (Nat.le_of_ble_eq_true rfl)⟩) ⟨k_blind, (k_recv hK hH (pn_lt hn isPn57) (Ec_pn isPn57) rfl), k_pre hK hN hH hw⟩ rfl rfl hl.1 rfl (lv_room (Nat.le_of_ble_eq_true rfl)) dX11_dark_23 ⟨Nat.le_refl _, Nat.le_refl _⟩) hH (fun S7 H locs hw hH => ?_)
    refine lv_aload_n hx hb dX11_dark_26 rfl (lv_at hl 0 rfl) ?_
    refine gf_this_8 hx hb hts hiX11 hown hK hn hH lk1 dX11_dark_27 ?_
    obtain ⟨o8, eo8⟩ : ∃ y : Nat, y = (gN S7 0 8) := ⟨_, rfl⟩
    obtain ⟨ho8, hw⟩ := hw o8 eo8
    rw [← eo8]
    refine gf_w_4 hx hb hts hiX10 hown hK hn hH ho8 lk3 dX11_dark_30 ?_
    refine lv_topi (fun t9 et9 => ?_)
    replace hw := hw t9 et9
    refine lv_istore_n (lv' := [(2, .int t9), (0, .ref (ly 0)), (1, .int a1)]) hx hb dX11_dark_33 rfl hl (by decide) rfl (fun ls hl => ?_)
    have L_34 : ∀ (K_34 : Int32 → St → Prop) (hk_34 : ∀ (v2_34 : Int32) (S_34 : St) (H : Heap) (locs : List Loc) (ls : Array Slot), K_34 v2_34 S_34 → Hp D (Ec kA ly) ly n A s.heap S_34 H locs → lv_has ls 3 [(0, .ref (ly 0)), (1, .int a1), (2, .int v2_34)] → W p l e (headSpec wsX11_dark { frames := 2, cells := 0, slots := 0, locals := 81 }).room s m [.ref (ly 0), .int a1].toArray below meth c H locs 0 0 (MQ below (va_Qi Q (Gp D (Ec kA ly) ly n A kA) A) [.ref (ly 0), .int a1].toArray s 0 0 A) (F0 m 68 ls [])) (fu_34 : Nat) (v2_34 : Int32) (S_34 : St) (H : Heap) (locs : List Loc) (ls : Array Slot), wl_X11_dark_34 Q K_34 fu_34 v2_34 S_34 → Hp D (Ec kA ly) ly n A s.heap S_34 H locs → lv_has ls 3 [(0, .ref (ly 0)), (1, .int a1), (2, .int v2_34)] → W p l e (headSpec wsX11_dark { frames := 2, cells := 0, slots := 0, locals := 81 }).room s m [.ref (ly 0), .int a1].toArray below meth c H locs 0 0 (MQ below (va_Qi Q (Gp D (Ec kA ly) ly n A kA) A) [.ref (ly 0), .int a1].toArray s 0 0 A) (F0 m 34 ls []) := by
      intro K_34 hk_34 fu_34
      induction fu_34 with
      | zero => intro v2_34 S_34 H locs ls hw hH hl; rw [wl_X11_dark_34] at hw; exact hw.elim
      | succ fu_34 ih_34 =>
        intro v2_34 S_34 H locs ls hw hH hl
        rw [wl_X11_dark_34] at hw
        refine lv_iload_n hx hb dX11_dark_34 rfl (lv_at hl 2 rfl) ?_
        refine lv_bipush (v := 50) hx hb dX11_dark_35 (by decide +kernel) ?_
        refine lv_icmp_ge (tgt := 68) hx hb dX11_dark_37 (by decide) (fun hc10 => ?_) (fun hc10 => ?_)
        · replace hw := hw.1 hc10
          exact hk_34 v2_34 S_34 _ _ ls hw hH (lv_sub hl [0, 1, 2] rfl)
        · replace hw := hw.2 hc10
          refine lv_aload_n hx hb dX11_dark_40 rfl (lv_at hl 0 rfl) ?_
          refine gf_this_0 hx hb hts hiX11 hown hK hn hH lk0 dX11_dark_41 ?_
          refine k_afti (va_runV (As := []) (rest := []) ⟨hx, hb, hml, hown, hts⟩ (c_X3_last l D kA ly n hn A 57 S_34 _) (cwV 0 hts gX11_dark_X3_last rfl rfl rfl (by decide +kernel) ⟨(Nat.le_of_ble_eq_true rfl), (Nat.le_of_ble_eq_true rfl)⟩) ⟨k_blind, (k_recv hK hH (pn_lt hn isPn57) (Ec_pn isPn57) rfl), k_pre hK hN hH hw⟩ rfl rfl hl.1 rfl (lv_room (Nat.le_of_ble_eq_true rfl)) dX11_dark_44 ⟨Nat.le_refl _, Nat.le_refl _⟩) hH (fun r12 S11 H locs hw hH => ?_)
          refine lv_bipush (v := -9) hx hb dX11_dark_47 (by decide +kernel) ?_
          refine lv_icmp_eq (tgt := 54) hx hb dX11_dark_49 (by decide) (fun hc13 => ?_) (fun hc13 => ?_)
          · replace hw := hw.1 hc13
            refine lv_aload_n hx hb dX11_dark_54 rfl (lv_at hl 0 rfl) ?_
            refine gf_this_0 hx hb hts hiX11 hown hK hn hH lk0 dX11_dark_55 ?_
            refine lv_iload_n hx hb dX11_dark_58 rfl (lv_at hl 2 rfl) ?_
            refine k_aftv (va_runV (As := [.int v2_34]) (rest := []) ⟨hx, hb, hml, hown, hts⟩ (c_X3_passDay l D kA ly n hn A 57 v2_34 S11 _) (cwV 1 hts gX11_dark_X3_passDay rfl rfl rfl (by decide +kernel) ⟨(Nat.le_of_ble_eq_true rfl), (Nat.le_of_ble_eq_true rfl)⟩) ⟨k_blind, (k_recv hK hH (pn_lt hn isPn57) (Ec_pn isPn57) rfl), k_pre hK hN hH hw⟩ rfl rfl hl.1 rfl (lv_room (Nat.le_of_ble_eq_true rfl)) dX11_dark_59 ⟨Nat.le_refl _, Nat.le_refl _⟩) hH (fun S14 H locs hw hH => ?_)
            obtain ⟨t15, et15⟩ : ∃ y : Int32, y = v2_34 + 1 := ⟨_, rfl⟩
            replace hw := hw t15 et15
            refine lv_iinc (v := t15) (lv' := [(2, .int t15), (0, .ref (ly 0)), (1, .int a1)]) hx hb dX11_dark_62 hl (k := 2) rfl (by rw [et15]; rfl) (by decide) rfl (fun ls hl => ?_)
            refine lv_goto (tgt := 34) hx hb dX11_dark_65 (by decide) ?_
            exact ih_34 t15 S14 _ _ ls hw hH (lv_sub hl [1, 2, 0] rfl)
          · replace hw := hw.2 hc13
            refine lv_iload_n hx hb dX11_dark_52 rfl (lv_at hl 2 rfl) ?_
            exact k_iret hx hb hr hlocks hK hN hH hw dX11_dark_53
    obtain ⟨m_34, hw⟩ := hw
    refine L_34 _ (fun e2_16 S17 H locs ls hw hH hl => ?_) m_34 t9 S7 _ _ ls hw hH (lv_sub hl [1, 2, 0] rfl)
    refine lv_bipush (v := -3) hx hb dX11_dark_68 (by decide +kernel) ?_
    exact k_iret hx hb hr hlocks hK hN hH hw dX11_dark_70
  · replace hw := hw.1 hc3
    refine lv_iconst (v := -1) hx hb dX11_dark_8 (by decide +kernel) ?_
    exact k_iret hx hb hr hlocks hK hN hH hw dX11_dark_9
def wl_X11_firstDayOf_24 (a2 : Int32) (Q : Int32 → St → Prop) (K_24 : Int32 → St → Prop) : Nat → Int32 → St → Prop
  | 0, _, _ => False
  | fu_24 + 1, v3_24, S_24 => (((50 : Int32) ≤ v3_24 → K_24 v3_24 S_24) ∧ (¬ (50 : Int32) ≤ v3_24 → wp_X3_last 57 S_24 (fun r9 S8 => ((r9 = a2 → Q v3_24 S8) ∧ (¬ r9 = a2 → wp_X3_passDay 57 v3_24 S8 (fun S11 => (∀ t12 : Int32, t12 = v3_24 + 1 → wl_X11_firstDayOf_24 a2 Q K_24 fu_24 t12 S11)))))))
def wp_X11_firstDayOf (a1 : Int32) (a2 : Int32) (S : St) (Q : Int32 → St → Prop) : Prop := (∀ o1 : Nat, o1 = (gN S 0 8) → isW o1 ∧ (vp_in a1 6 ∧ ∀ o3 : Nat, o3 = gN S (o1 + 3) a1.toNatClampNeg → isPn o3 ∧ wp_X3_copyFrom 57 o3 S (fun S4 => (∀ o5 : Nat, o5 = (gN S4 0 8) → isW o5 ∧ (∀ t6 : Int32, t6 = (gI S4 o5 4) → (∃ m_24 : Nat, wl_X11_firstDayOf_24 a2 Q (fun e3_13 S14 => Q (50 : Int32) S14) m_24 t6 S4))))))
set_option maxHeartbeats 4000000 in
set_option maxRecDepth 100000 in
theorem c_X11_firstDayOf (l : Launch) (D : va_G) (kA : Nat → ClassId) (ly : Nat → Nat) (n : List Nat) (hn : ∀ c, c < 59 → c ∈ n) (A : Nat → Prop) (a1 : Int32) (a2 : Int32) : Ci l yX11_firstDayOf wsX11_firstDayOf 2 81 (Gp D (Ec kA ly) ly n A kA) A [.ref (ly 0), .int a1, .int a2] (wp_X11_firstDayOf a1 a2) := by
  intro S Q
  refine Met.ofW (cc := cX11_firstDayOf) (maxL := 4) (ret := (some .int)) (by decide) rfl ?_
  intro p e s m args below meth c s₁ B hml hv
  obtain ⟨rfl, ⟨hP, hD, hK, hN⟩, hw⟩ := hv
  have hx := B.exec
  have hb := B.bytes
  have hr := B.returns
  have hts := atoms_spec (ws := wsX11_firstDayOf) B.pre
  have hown : s.vm.findClass RX11 = some m.cls := findClass_of_methodNamed B.named
  have hlocks := B.notSynchronized
  have hH : Hp D (Ec kA ly) ly n A s.heap S s.heap [] := ⟨hP, hD, va_S.rf⟩
  have hiX11 : ∀ w ∈ u_ws RX11 TX11 12, w ∈ wsX11_firstDayOf := by decide +kernel
  have hiX10 : ∀ w ∈ u_ws RX10 TX10 6, w ∈ wsX11_firstDayOf := by decide +kernel
  have lk0 := hts (.fieldLink RX11 12 "SlowPanes" "trial" "LSlowPanes$Pane;") (by decide +kernel)
  have lk1 := hts (.fieldLink RX11 53 "SlowPanes" "world" "LSlowPanes$World;") (by decide +kernel)
  have lk2 := hts (.fieldLink RX11 124 "SlowPanes$World" "panes" "[LSlowPanes$Pane;") (by decide +kernel)
  have lk3 := hts (.fieldLink RX11 140 "SlowPanes$World" "today" "I") (by decide +kernel)
  have hl := lv_entry ([.ref (ly 0), .int a1, .int a2]) (n := 4) (Nat.le_of_ble_eq_true rfl)
  rw [lg_entry_eq]
  generalize (lg_sl ([.ref (ly 0), .int a1, .int a2]) ++ List.replicate (4 - (lg_sl ([.ref (ly 0), .int a1, .int a2])).length) Slot.unset).toArray = ls at hl ⊢
  have hl : lv_has ls 4 [(0, .ref (ly 0)), (1, .int a1), (2, .int a2)] := hl
  rw [wp_X11_firstDayOf] at hw
  refine lv_aload_n hx hb dX11_firstDayOf_0 rfl (lv_at hl 0 rfl) ?_
  refine gf_this_0 hx hb hts hiX11 hown hK hn hH lk0 dX11_firstDayOf_1 ?_
  refine lv_aload_n hx hb dX11_firstDayOf_4 rfl (lv_at hl 0 rfl) ?_
  refine gf_this_8 hx hb hts hiX11 hown hK hn hH lk1 dX11_firstDayOf_5 ?_
  obtain ⟨o1, eo1⟩ : ∃ y : Nat, y = (gN S 0 8) := ⟨_, rfl⟩
  obtain ⟨ho1, hw⟩ := hw o1 eo1
  rw [← eo1]
  refine gf_w_2 hx hb hts hiX10 hown hK hn hH ho1 lk2 dX11_firstDayOf_8 ?_
  refine lv_iload_n hx hb dX11_firstDayOf_11 rfl (lv_at hl 1 rfl) ?_
  obtain ⟨hi_2, hw⟩ := hw
  obtain ⟨o3, eo3⟩ : ∃ y : Nat, y = gN S (o1 + 3) a1.toNatClampNeg := ⟨_, rfl⟩
  obtain ⟨ho3, hw⟩ := hw o3 eo3
  refine k_ald (t0 := 1) (v := .ref (ly o3)) hx hb hK hH (w_lt hn ho1 3 (by decide)) rfl (Ec_wp ho1) hi_2 (by rw [eo3]; rfl) dX11_firstDayOf_12 ?_
  refine k_aftv (va_runV (As := [.ref (ly o3)]) (rest := []) ⟨hx, hb, hml, hown, hts⟩ (c_X3_copyFrom l D kA ly n hn A 57 o3 S _) (cwV 1 hts gX11_firstDayOf_X3_copyFrom rfl rfl rfl (by decide +kernel) ⟨(Nat.le_of_ble_eq_true rfl), (Nat.le_of_ble_eq_true rfl)⟩) ⟨k_blind, (k_recv hK hH (pn_lt hn isPn57) (Ec_pn isPn57) rfl), k_pre hK hN hH hw⟩ rfl rfl hl.1 rfl (lv_room (Nat.le_of_ble_eq_true rfl)) dX11_firstDayOf_13 ⟨Nat.le_refl _, Nat.le_refl _⟩) hH (fun S4 H locs hw hH => ?_)
  refine lv_aload_n hx hb dX11_firstDayOf_16 rfl (lv_at hl 0 rfl) ?_
  refine gf_this_8 hx hb hts hiX11 hown hK hn hH lk1 dX11_firstDayOf_17 ?_
  obtain ⟨o5, eo5⟩ : ∃ y : Nat, y = (gN S4 0 8) := ⟨_, rfl⟩
  obtain ⟨ho5, hw⟩ := hw o5 eo5
  rw [← eo5]
  refine gf_w_4 hx hb hts hiX10 hown hK hn hH ho5 lk3 dX11_firstDayOf_20 ?_
  refine lv_topi (fun t6 et6 => ?_)
  replace hw := hw t6 et6
  refine lv_istore_n (lv' := [(3, .int t6), (0, .ref (ly 0)), (1, .int a1), (2, .int a2)]) hx hb dX11_firstDayOf_23 rfl hl (by decide) rfl (fun ls hl => ?_)
  have L_24 : ∀ (K_24 : Int32 → St → Prop) (hk_24 : ∀ (v3_24 : Int32) (S_24 : St) (H : Heap) (locs : List Loc) (ls : Array Slot), K_24 v3_24 S_24 → Hp D (Ec kA ly) ly n A s.heap S_24 H locs → lv_has ls 4 [(0, .ref (ly 0)), (1, .int a1), (2, .int a2), (3, .int v3_24)] → W p l e (headSpec wsX11_firstDayOf { frames := 2, cells := 0, slots := 0, locals := 81 }).room s m [.ref (ly 0), .int a1, .int a2].toArray below meth c H locs 0 0 (MQ below (va_Qi Q (Gp D (Ec kA ly) ly n A kA) A) [.ref (ly 0), .int a1, .int a2].toArray s 0 0 A) (F0 m 57 ls [])) (fu_24 : Nat) (v3_24 : Int32) (S_24 : St) (H : Heap) (locs : List Loc) (ls : Array Slot), wl_X11_firstDayOf_24 a2 Q K_24 fu_24 v3_24 S_24 → Hp D (Ec kA ly) ly n A s.heap S_24 H locs → lv_has ls 4 [(0, .ref (ly 0)), (1, .int a1), (2, .int a2), (3, .int v3_24)] → W p l e (headSpec wsX11_firstDayOf { frames := 2, cells := 0, slots := 0, locals := 81 }).room s m [.ref (ly 0), .int a1, .int a2].toArray below meth c H locs 0 0 (MQ below (va_Qi Q (Gp D (Ec kA ly) ly n A kA) A) [.ref (ly 0), .int a1, .int a2].toArray s 0 0 A) (F0 m 24 ls []) := by
    intro K_24 hk_24 fu_24
    induction fu_24 with
    | zero => intro v3_24 S_24 H locs ls hw hH hl; rw [wl_X11_firstDayOf_24] at hw; exact hw.elim
    | succ fu_24 ih_24 =>
      intro v3_24 S_24 H locs ls hw hH hl
      rw [wl_X11_firstDayOf_24] at hw
      refine lv_iload_n hx hb dX11_firstDayOf_24 rfl (lv_at hl 3 rfl) ?_
      refine lv_bipush (v := 50) hx hb dX11_firstDayOf_25 (by decide +kernel) ?_
      refine lv_icmp_ge (tgt := 57) hx hb dX11_firstDayOf_27 (by decide) (fun hc7 => ?_) (fun hc7 => ?_)
      · replace hw := hw.1 hc7
        exact hk_24 v3_24 S_24 _ _ ls hw hH (lv_sub hl [0, 1, 2, 3] rfl)
      · replace hw := hw.2 hc7
        refine lv_aload_n hx hb dX11_firstDayOf_30 rfl (lv_at hl 0 rfl) ?_
        refine gf_this_0 hx hb hts hiX11 hown hK hn hH lk0 dX11_firstDayOf_31 ?_
        refine k_afti (va_runV (As := []) (rest := []) ⟨hx, hb, hml, hown, hts⟩ (c_X3_last l D kA ly n hn A 57 S_24 _) (cwV 0 hts gX11_firstDayOf_X3_last rfl rfl rfl (by decide +kernel) ⟨(Nat.le_of_ble_eq_true rfl), (Nat.le_of_ble_eq_true rfl)⟩) ⟨k_blind, (k_recv hK hH (pn_lt hn isPn57) (Ec_pn isPn57) rfl), k_pre hK hN hH hw⟩ rfl rfl hl.1 rfl (lv_room (Nat.le_of_ble_eq_true rfl)) dX11_firstDayOf_34 ⟨Nat.le_refl _, Nat.le_refl _⟩) hH (fun r9 S8 H locs hw hH => ?_)
        refine lv_iload_n hx hb dX11_firstDayOf_37 rfl (lv_at hl 2 rfl) ?_
        refine lv_icmp_ne (tgt := 43) hx hb dX11_firstDayOf_38 (by decide) (fun hc10 => ?_) (fun hc10 => ?_)
        · replace hw := hw.2 hc10
          refine lv_aload_n hx hb dX11_firstDayOf_43 rfl (lv_at hl 0 rfl) ?_
          refine gf_this_0 hx hb hts hiX11 hown hK hn hH lk0 dX11_firstDayOf_44 ?_
          refine lv_iload_n hx hb dX11_firstDayOf_47 rfl (lv_at hl 3 rfl) ?_
          refine k_aftv (va_runV (As := [.int v3_24]) (rest := []) ⟨hx, hb, hml, hown, hts⟩ (c_X3_passDay l D kA ly n hn A 57 v3_24 S8 _) (cwV 1 hts gX11_firstDayOf_X3_passDay rfl rfl rfl (by decide +kernel) ⟨(Nat.le_of_ble_eq_true rfl), (Nat.le_of_ble_eq_true rfl)⟩) ⟨k_blind, (k_recv hK hH (pn_lt hn isPn57) (Ec_pn isPn57) rfl), k_pre hK hN hH hw⟩ rfl rfl hl.1 rfl (lv_room (Nat.le_of_ble_eq_true rfl)) dX11_firstDayOf_48 ⟨Nat.le_refl _, Nat.le_refl _⟩) hH (fun S11 H locs hw hH => ?_)
          obtain ⟨t12, et12⟩ : ∃ y : Int32, y = v3_24 + 1 := ⟨_, rfl⟩
          replace hw := hw t12 et12
          refine lv_iinc (v := t12) (lv' := [(3, .int t12), (0, .ref (ly 0)), (1, .int a1), (2, .int a2)]) hx hb dX11_firstDayOf_51 hl (k := 3) rfl (by rw [et12]; rfl) (by decide) rfl (fun ls hl => ?_)
          refine lv_goto (tgt := 24) hx hb dX11_firstDayOf_54 (by decide) ?_
          exact ih_24 t12 S11 _ _ ls hw hH (lv_sub hl [1, 2, 3, 0] rfl)
        · replace hw := hw.1 hc10
          refine lv_iload_n hx hb dX11_firstDayOf_41 rfl (lv_at hl 3 rfl) ?_
          exact k_iret hx hb hr hlocks hK hN hH hw dX11_firstDayOf_42
  obtain ⟨m_24, hw⟩ := hw
  refine L_24 _ (fun e3_13 S14 H locs ls hw hH hl => ?_) m_24 t6 S4 _ _ ls hw hH (lv_sub hl [1, 2, 3, 0] rfl)
  refine lv_bipush (v := 50) hx hb dX11_firstDayOf_57 (by decide +kernel) ?_
  exact k_iret hx hb hr hlocks hK hN hH hw dX11_firstDayOf_59
def wl_X11_seen_42 (r10 : Int32) (K_42 : Int32 → Int32 → Int32 → St → Prop) : Nat → Int32 → Int32 → Int32 → St → Prop
  | 0, _, _, _, _ => False
  | fu_42 + 1, v5_42, v6_42, v7_42, S_42 => (∀ o11 : Nat, o11 = (gN S_42 0 8) → isW o11 ∧ (((gI S_42 o11 3) ≤ v7_42 → K_42 v5_42 v6_42 v7_42 S_42) ∧ (¬ (gI S_42 o11 3) ≤ v7_42 → wp_X11_firstDayOf v7_42 r10 S_42 (fun r14 S13 => ((v5_42 ≤ r14 → (∀ t16 : Int32, t16 = v7_42 + 1 → wl_X11_seen_42 r10 K_42 fu_42 v5_42 v6_42 t16 S13)) ∧ (¬ v5_42 ≤ r14 → (∀ t17 : Int32, t17 = v7_42 + 1 → wl_X11_seen_42 r10 K_42 fu_42 r14 v7_42 t17 S13)))))))
def wp_X11_seen (a1 : Int32) (a2 : Int32) (a3 : Int32) (S : St) (Q : Int32 → St → Prop) : Prop := wp_X11_isPlace a1 S (fun r2 S1 => ((r2 = 0 → Q (-1 : Int32) S1) ∧ (¬ r2 = 0 → wp_X11_isDay a2 S1 (fun r5 S4 => ((r5 = 0 → Q (-1 : Int32) S4) ∧ (¬ r5 = 0 → ((a3 < 0 → Q (-1 : Int32) S4) ∧ (¬ a3 < 0 → ((a3 ≤ (1 : Int32) → wp_X11_glimpseOf a1 a2 S4 (fun r10 S9 => (∃ m_42 : Nat, wl_X11_seen_42 r10 (fun e5_18 e6_19 e7_20 S21 => ((e6_19 = (-1 : Int32) → Q (-3 : Int32) S21) ∧ (¬ e6_19 = (-1 : Int32) → ((a3 = 0 → Q e5_18 S21) ∧ (¬ a3 = 0 → Q e6_19 S21))))) m_42 (50 : Int32) (-1 : Int32) (0 : Int32) S9))) ∧ (¬ a3 ≤ (1 : Int32) → Q (-1 : Int32) S4))))))))))
set_option maxHeartbeats 4000000 in
set_option maxRecDepth 100000 in
theorem c_X11_seen (l : Launch) (D : va_G) (kA : Nat → ClassId) (ly : Nat → Nat) (n : List Nat) (hn : ∀ c, c < 59 → c ∈ n) (A : Nat → Prop) (a1 : Int32) (a2 : Int32) (a3 : Int32) : Ci l yX11_seen wsX11_seen 3 104 (Gp D (Ec kA ly) ly n A kA) A [.ref (ly 0), .int a1, .int a2, .int a3] (wp_X11_seen a1 a2 a3) := by
  intro S Q
  refine Met.ofW (cc := cX11_seen) (maxL := 9) (ret := (some .int)) (by decide) rfl ?_
  intro p e s m args below meth c s₁ B hml hv
  obtain ⟨rfl, ⟨hP, hD, hK, hN⟩, hw⟩ := hv
  have hx := B.exec
  have hb := B.bytes
  have hr := B.returns
  have hts := atoms_spec (ws := wsX11_seen) B.pre
  have hown : s.vm.findClass RX11 = some m.cls := findClass_of_methodNamed B.named
  have hlocks := B.notSynchronized
  have hH : Hp D (Ec kA ly) ly n A s.heap S s.heap [] := ⟨hP, hD, va_S.rf⟩
  have hiX11 : ∀ w ∈ u_ws RX11 TX11 12, w ∈ wsX11_seen := by decide +kernel
  have hiX10 : ∀ w ∈ u_ws RX10 TX10 6, w ∈ wsX11_seen := by decide +kernel
  have lk0 := hts (.fieldLink RX11 53 "SlowPanes" "world" "LSlowPanes$World;") (by decide +kernel)
  have lk1 := hts (.fieldLink RX11 84 "SlowPanes$World" "count" "I") (by decide +kernel)
  have hl := lv_entry ([.ref (ly 0), .int a1, .int a2, .int a3]) (n := 9) (Nat.le_of_ble_eq_true rfl)
  rw [lg_entry_eq]
  generalize (lg_sl ([.ref (ly 0), .int a1, .int a2, .int a3]) ++ List.replicate (9 - (lg_sl ([.ref (ly 0), .int a1, .int a2, .int a3])).length) Slot.unset).toArray = ls at hl ⊢
  have hl : lv_has ls 9 [(0, .ref (ly 0)), (1, .int a1), (2, .int a2), (3, .int a3)] := hl
  rw [wp_X11_seen] at hw
  refine lv_iload_n hx hb dX11_seen_0 rfl (lv_at hl 1 rfl) ?_
  refine k_afti (va_runS (As := [.int a1]) (rest := []) ⟨hx, hb, hml, hown, hts⟩ (c_X11_isPlace l D kA ly n hn A a1 S _) (va_cwS 1 hts gX11_seen_X11_isPlace rfl rfl rfl (by decide +kernel) ⟨(Nat.le_of_ble_eq_true rfl), (Nat.le_of_ble_eq_true rfl)⟩) ⟨k_blind, k_pre hK hN hH hw⟩ rfl rfl hl.1 rfl (lv_room (Nat.le_of_ble_eq_true rfl)) dX11_seen_1 ⟨Nat.le_refl _, Nat.le_refl _⟩) hH (fun r2 S1 H locs hw hH => ?_)
  refine lv_if_eq (tgt := 23) hx hb dX11_seen_4 (by decide) (fun hc3 => ?_) (fun hc3 => ?_)
  · replace hw := hw.1 hc3
    refine lv_iconst (v := -1) hx hb dX11_seen_23 (by decide +kernel) ?_
    exact k_iret hx hb hr hlocks hK hN hH hw dX11_seen_24
  · replace hw := hw.2 hc3
    refine lv_iload_n hx hb dX11_seen_7 rfl (lv_at hl 2 rfl) ?_
    refine k_afti (va_runS (As := [.int a2]) (rest := []) ⟨hx, hb, hml, hown, hts⟩ (c_X11_isDay l D kA ly n hn A a2 S1 _) (va_cwS 1 hts gX11_seen_X11_isDay rfl rfl rfl (by decide +kernel) ⟨(Nat.le_of_ble_eq_true rfl), (Nat.le_of_ble_eq_true rfl)⟩) ⟨k_blind, k_pre hK hN hH hw⟩ rfl rfl hl.1 rfl (lv_room (Nat.le_of_ble_eq_true rfl)) dX11_seen_8 ⟨Nat.le_refl _, Nat.le_refl _⟩) hH (fun r5 S4 H locs hw hH => ?_)
    refine lv_if_eq (tgt := 23) hx hb dX11_seen_11 (by decide) (fun hc6 => ?_) (fun hc6 => ?_)
    · replace hw := hw.1 hc6
      refine lv_iconst (v := -1) hx hb dX11_seen_23 (by decide +kernel) ?_
      exact k_iret hx hb hr hlocks hK hN hH hw dX11_seen_24
    · replace hw := hw.2 hc6
      refine lv_iload_n hx hb dX11_seen_14 rfl (lv_at hl 3 rfl) ?_
      refine lv_if_lt (tgt := 23) hx hb dX11_seen_15 (by decide) (fun hc7 => ?_) (fun hc7 => ?_)
      · replace hw := hw.1 hc7
        refine lv_iconst (v := -1) hx hb dX11_seen_23 (by decide +kernel) ?_
        exact k_iret hx hb hr hlocks hK hN hH hw dX11_seen_24
      · replace hw := hw.2 hc7
        refine lv_iload_n hx hb dX11_seen_18 rfl (lv_at hl 3 rfl) ?_
        refine lv_iconst (v := 1) hx hb dX11_seen_19 (by decide +kernel) ?_
        refine lv_icmp_le (tgt := 25) hx hb dX11_seen_20 (by decide) (fun hc8 => ?_) (fun hc8 => ?_)
        · replace hw := hw.1 hc8
          refine lv_iload_n hx hb dX11_seen_25 rfl (lv_at hl 1 rfl) ?_
          refine lv_iload_n hx hb dX11_seen_26 rfl (lv_at hl 2 rfl) ?_
          refine k_afti (va_runS (As := [.int a1, .int a2]) (rest := []) ⟨hx, hb, hml, hown, hts⟩ (c_X11_glimpseOf l D kA ly n hn A a1 a2 S4 _) (va_cwS 2 hts gX11_seen_X11_glimpseOf rfl rfl rfl (by decide +kernel) ⟨(Nat.le_of_ble_eq_true rfl), (Nat.le_of_ble_eq_true rfl)⟩) ⟨k_blind, k_pre hK hN hH hw⟩ rfl rfl hl.1 rfl (lv_room (Nat.le_of_ble_eq_true rfl)) dX11_seen_27 ⟨Nat.le_refl _, Nat.le_refl _⟩) hH (fun r10 S9 H locs hw hH => ?_)
          refine lv_istore (lv' := [(4, .int r10), (0, .ref (ly 0)), (1, .int a1), (2, .int a2), (3, .int a3)]) hx hb dX11_seen_30 hl (by decide) rfl (fun ls hl => ?_)
          refine lv_bipush (v := 50) hx hb dX11_seen_32 (by decide +kernel) ?_
          refine lv_istore (lv' := [(5, .int (50 : Int32)), (4, .int r10), (0, .ref (ly 0)), (1, .int a1), (2, .int a2), (3, .int a3)]) hx hb dX11_seen_34 hl (by decide) rfl (fun ls hl => ?_)
          refine lv_iconst (v := -1) hx hb dX11_seen_36 (by decide +kernel) ?_
          refine lv_istore (lv' := [(6, .int (-1 : Int32)), (5, .int (50 : Int32)), (4, .int r10), (0, .ref (ly 0)), (1, .int a1), (2, .int a2), (3, .int a3)]) hx hb dX11_seen_37 hl (by decide) rfl (fun ls hl => ?_)
          refine lv_iconst (v := 0) hx hb dX11_seen_39 (by decide +kernel) ?_
          refine lv_istore (lv' := [(7, .int (0 : Int32)), (6, .int (-1 : Int32)), (5, .int (50 : Int32)), (4, .int r10), (0, .ref (ly 0)), (1, .int a1), (2, .int a2), (3, .int a3)]) hx hb dX11_seen_40 hl (by decide) rfl (fun ls hl => ?_)
          have L_42 : ∀ (K_42 : Int32 → Int32 → Int32 → St → Prop) (hk_42 : ∀ (v5_42 : Int32) (v6_42 : Int32) (v7_42 : Int32) (S_42 : St) (H : Heap) (locs : List Loc) (ls : Array Slot), K_42 v5_42 v6_42 v7_42 S_42 → Hp D (Ec kA ly) ly n A s.heap S_42 H locs → lv_has ls 9 [(0, .ref (ly 0)), (1, .int a1), (2, .int a2), (3, .int a3), (4, .int r10), (5, .int v5_42), (6, .int v6_42), (7, .int v7_42)] → W p l e (headSpec wsX11_seen { frames := 3, cells := 0, slots := 0, locals := 104 }).room s m [.ref (ly 0), .int a1, .int a2, .int a3].toArray below meth c H locs 0 0 (MQ below (va_Qi Q (Gp D (Ec kA ly) ly n A kA) A) [.ref (ly 0), .int a1, .int a2, .int a3].toArray s 0 0 A) (F0 m 85 ls [])) (fu_42 : Nat) (v5_42 : Int32) (v6_42 : Int32) (v7_42 : Int32) (S_42 : St) (H : Heap) (locs : List Loc) (ls : Array Slot), wl_X11_seen_42 r10 K_42 fu_42 v5_42 v6_42 v7_42 S_42 → Hp D (Ec kA ly) ly n A s.heap S_42 H locs → lv_has ls 9 [(0, .ref (ly 0)), (1, .int a1), (2, .int a2), (3, .int a3), (4, .int r10), (5, .int v5_42), (6, .int v6_42), (7, .int v7_42)] → W p l e (headSpec wsX11_seen { frames := 3, cells := 0, slots := 0, locals := 104 }).room s m [.ref (ly 0), .int a1, .int a2, .int a3].toArray below meth c H locs 0 0 (MQ below (va_Qi Q (Gp D (Ec kA ly) ly n A kA) A) [.ref (ly 0), .int a1, .int a2, .int a3].toArray s 0 0 A) (F0 m 42 ls []) := by
            intro K_42 hk_42 fu_42
            induction fu_42 with
            | zero => intro v5_42 v6_42 v7_42 S_42 H locs ls hw hH hl; rw [wl_X11_seen_42] at hw; exact hw.elim
            | succ fu_42 ih_42 =>
              intro v5_42 v6_42 v7_42 S_42 H locs ls hw hH hl
              rw [wl_X11_seen_42] at hw
              refine lv_iload hx hb dX11_seen_42 (lv_at hl 7 rfl) ?_
              refine lv_aload_n hx hb dX11_seen_44 rfl (lv_at hl 0 rfl) ?_
              refine gf_this_8 hx hb hts hiX11 hown hK hn hH lk0 dX11_seen_45 ?_
              obtain ⟨o11, eo11⟩ : ∃ y : Nat, y = (gN S_42 0 8) := ⟨_, rfl⟩
              obtain ⟨ho11, hw⟩ := hw o11 eo11
              rw [← eo11]
              refine gf_w_3 hx hb hts hiX10 hown hK hn hH ho11 lk1 dX11_seen_48 ?_
              refine lv_icmp_ge (tgt := 85) hx hb dX11_seen_51 (by decide) (fun hc12 => ?_) (fun hc12 => ?_)
              · replace hw := hw.1 hc12
                exact hk_42 v5_42 v6_42 v7_42 S_42 _ _ ls hw hH (lv_sub hl [0, 1, 2, 3, 4, 5, 6, 7] rfl)
              · replace hw := hw.2 hc12
                refine lv_aload_n hx hb dX11_seen_54 rfl (lv_at hl 0 rfl) ?_
                refine lv_iload hx hb dX11_seen_55 (lv_at hl 7 rfl) ?_
                refine lv_iload hx hb dX11_seen_57 (lv_at hl 4 rfl) ?_
                refine k_afti (va_runV (As := [.int v7_42, .int r10]) (rest := []) ⟨hx, hb, hml, hown, hts⟩ (c_X11_firstDayOf l D kA ly n hn A v7_42 r10 S_42 _) (cwV 2 hts gX11_seen_X11_firstDayOf rfl rfl rfl (by decide +kernel) ⟨(Nat.le_of_ble_eq_true rfl), (Nat.le_of_ble_eq_true rfl)⟩) ⟨k_blind, (k_recv hK hH (lt_n hn (by decide)) Ec_0 rfl), k_pre hK hN hH hw⟩ rfl rfl hl.1 rfl (lv_room (Nat.le_of_ble_eq_true rfl)) dX11_seen_59 ⟨Nat.le_refl _, Nat.le_refl _⟩) hH (fun r14 S13 H locs hw hH => ?_)
                refine lv_istore (lv' := [(8, .int r14), (0, .ref (ly 0)), (1, .int a1), (2, .int a2), (3, .int a3), (4, .int r10), (5, .int v5_42), (6, .int v6_42), (7, .int v7_42)]) hx hb dX11_seen_62 hl (by decide) rfl (fun ls hl => ?_)
                refine lv_iload hx hb dX11_seen_64 (lv_at hl 0 rfl) ?_
                refine lv_iload hx hb dX11_seen_66 (lv_at hl 6 rfl) ?_
                refine lv_icmp_ge (tgt := 79) hx hb dX11_seen_68 (by decide) (fun hc15 => ?_) (fun hc15 => ?_)
                · replace hw := hw.1 hc15
                  obtain ⟨t16, et16⟩ : ∃ y : Int32, y = v7_42 + 1 := ⟨_, rfl⟩
                  replace hw := hw t16 et16
                  refine lv_iinc (v := t16) (lv' := [(7, .int t16), (8, .int r14), (0, .ref (ly 0)), (1, .int a1), (2, .int a2), (3, .int a3), (4, .int r10), (5, .int v5_42), (6, .int v6_42)]) hx hb dX11_seen_79 hl (k := 8) rfl (by rw [et16]; rfl) (by decide) rfl (fun ls hl => ?_)
                  refine lv_goto (tgt := 42) hx hb dX11_seen_82 (by decide) ?_
                  exact ih_42 v5_42 v6_42 t16 S13 _ _ ls hw hH (lv_sub hl [2, 3, 4, 5, 6, 7, 8, 0] rfl)
                · replace hw := hw.2 hc15
                  refine lv_iload hx hb dX11_seen_71 (lv_at hl 0 rfl) ?_
                  refine lv_istore (lv' := [(5, .int r14), (8, .int r14), (0, .ref (ly 0)), (1, .int a1), (2, .int a2), (3, .int a3), (4, .int r10), (6, .int v6_42), (7, .int v7_42)]) hx hb dX11_seen_73 hl (by decide) rfl (fun ls hl => ?_)
                  refine lv_iload hx hb dX11_seen_75 (lv_at hl 8 rfl) ?_
                  refine lv_istore (lv' := [(6, .int v7_42), (5, .int r14), (8, .int r14), (0, .ref (ly 0)), (1, .int a1), (2, .int a2), (3, .int a3), (4, .int r10), (7, .int v7_42)]) hx hb dX11_seen_77 hl (by decide) rfl (fun ls hl => ?_)
                  obtain ⟨t17, et17⟩ : ∃ y : Int32, y = v7_42 + 1 := ⟨_, rfl⟩
                  replace hw := hw t17 et17
                  refine lv_iinc (v := t17) (lv' := [(7, .int t17), (6, .int v7_42), (5, .int r14), (8, .int r14), (0, .ref (ly 0)), (1, .int a1), (2, .int a2), (3, .int a3), (4, .int r10)]) hx hb dX11_seen_79 hl (k := 8) rfl (by rw [et17]; rfl) (by decide) rfl (fun ls hl => ?_)
                  refine lv_goto (tgt := 42) hx hb dX11_seen_82 (by decide) ?_
                  exact ih_42 r14 v7_42 t17 S13 _ _ ls hw hH (lv_sub hl [4, 5, 6, 7, 8, 2, 1, 0] rfl)
          obtain ⟨m_42, hw⟩ := hw
          refine L_42 _ (fun e5_18 e6_19 e7_20 S21 H locs ls hw hH hl => ?_) m_42 (50 : Int32) (-1 : Int32) (0 : Int32) S9 _ _ ls hw hH (lv_sub hl [4, 5, 6, 7, 3, 2, 1, 0] rfl)
          refine lv_iload hx hb dX11_seen_85 (lv_at hl 6 rfl) ?_
          refine lv_iconst (v := -1) hx hb dX11_seen_87 (by decide +kernel) ?_
          refine lv_icmp_ne (tgt := 94) hx hb dX11_seen_88 (by decide) (fun hc22 => ?_) (fun hc22 => ?_)
          · replace hw := hw.2 hc22
            refine lv_iload_n hx hb dX11_seen_94 rfl (lv_at hl 3 rfl) ?_
            refine lv_if_ne (tgt := 103) hx hb dX11_seen_95 (by decide) (fun hc23 => ?_) (fun hc23 => ?_)
            · replace hw := hw.2 hc23
              refine lv_iload hx hb dX11_seen_103 (lv_at hl 6 rfl) ?_
              exact k_iret hx hb hr hlocks hK hN hH hw dX11_seen_105
            · replace hw := hw.1 hc23
              refine lv_iload hx hb dX11_seen_98 (lv_at hl 5 rfl) ?_
              refine lv_goto (tgt := 105) hx hb dX11_seen_100 (by decide) ?_
              exact k_iret hx hb hr hlocks hK hN hH hw dX11_seen_105
          · replace hw := hw.1 hc22
            refine lv_bipush (v := -3) hx hb dX11_seen_91 (by decide +kernel) ?_
            exact k_iret hx hb hr hlocks hK hN hH hw dX11_seen_93
        · replace hw := hw.2 hc8
          refine lv_iconst (v := -1) hx hb dX11_seen_23 (by decide +kernel) ?_
          exact k_iret hx hb hr hlocks hK hN hH hw dX11_seen_24
def wp_X11_isTrialLength (a0 : Int32) (S : St) (Q : Int32 → St → Prop) : Prop := ((a0 < (1 : Int32) → Q (0 : Int32) S) ∧ (¬ a0 < (1 : Int32) → (((20 : Int32) < a0 → Q (0 : Int32) S) ∧ (¬ (20 : Int32) < a0 → Q (1 : Int32) S))))
set_option maxHeartbeats 4000000 in
set_option maxRecDepth 100000 in
theorem c_X11_isTrialLength (l : Launch) (D : va_G) (kA : Nat → ClassId) (ly : Nat → Nat) (n : List Nat) (hn : ∀ c, c < 59 → c ∈ n) (A : Nat → Prop) (a0 : Int32) : Ci l yX11_isTrialLength wsX11_isTrialLength 0 0 (Gp D (Ec kA ly) ly n A kA) A [.int a0] (wp_X11_isTrialLength a0) := by
  intro S Q
  refine Met.ofW (cc := cX11_isTrialLength) (maxL := 1) (ret := (some .boolean)) (by decide) rfl ?_
  intro p e s m args below meth c s₁ B hml hv
  obtain ⟨rfl, ⟨hP, hD, hK, hN⟩, hw⟩ := hv
  have hx := B.exec
  have hb := B.bytes
  have hr := B.returns
  have hts := atoms_spec (ws := wsX11_isTrialLength) B.pre
  have hown : s.vm.findClass RX11 = some m.cls := findClass_of_methodNamed B.named
  have hlocks := B.notSynchronized
  have hH : Hp D (Ec kA ly) ly n A s.heap S s.heap [] := ⟨hP, hD, va_S.rf⟩
  have hl := lv_entry ([.int a0]) (n := 1) (Nat.le_of_ble_eq_true rfl)
  rw [lg_entry_eq]
  generalize (lg_sl ([.int a0]) ++ List.replicate (1 - (lg_sl ([.int a0])).length) Slot.unset).toArray = ls at hl ⊢
  have hl : lv_has ls 1 [(0, .int a0)] := hl
  rw [wp_X11_isTrialLength] at hw
  refine lv_iload_n hx hb dX11_isTrialLength_0 rfl (lv_at hl 0 rfl) ?_
  refine lv_iconst (v := 1) hx hb dX11_isTrialLength_1 (by decide +kernel) ?_
  refine lv_icmp_lt (tgt := 15) hx hb dX11_isTrialLength_2 (by decide) (fun hc1 => ?_) (fun hc1 => ?_)
  · replace hw := hw.1 hc1
    refine lv_iconst (v := 0) hx hb dX11_isTrialLength_15 (by decide +kernel) ?_
    exact k_zret hx hb hr hlocks hK hN hH rfl hw dX11_isTrialLength_16
  · replace hw := hw.2 hc1
    refine lv_iload_n hx hb dX11_isTrialLength_5 rfl (lv_at hl 0 rfl) ?_
    refine lv_bipush (v := 20) hx hb dX11_isTrialLength_6 (by decide +kernel) ?_
    refine lv_icmp_gt (tgt := 15) hx hb dX11_isTrialLength_8 (by decide) (fun hc2 => ?_) (fun hc2 => ?_)
    · replace hw := hw.1 hc2
      refine lv_iconst (v := 0) hx hb dX11_isTrialLength_15 (by decide +kernel) ?_
      exact k_zret hx hb hr hlocks hK hN hH rfl hw dX11_isTrialLength_16
    · replace hw := hw.2 hc2
      refine lv_iconst (v := 1) hx hb dX11_isTrialLength_11 (by decide +kernel) ?_
      refine lv_goto (tgt := 16) hx hb dX11_isTrialLength_12 (by decide) ?_
      exact k_zret hx hb hr hlocks hK hN hH rfl hw dX11_isTrialLength_16
def wp_X11_worthAsIs (a1 : Int32) (a2 : Int32) (a3 : Int32) (S : St) (Q : Int32 → St → Prop) : Prop := (∀ o1 : Nat, o1 = (gN S 0 8) → isW o1 ∧ (vp_in a1 6 ∧ ∀ o3 : Nat, o3 = gN S (o1 + 3) a1.toNatClampNeg → isPn o3 ∧ wp_X3_copyFrom 57 o3 S (fun S4 => (∀ o5 : Nat, o5 = (gN S4 0 8) → isW o5 ∧ wp_X10_worthOf o5 57 a2 a3 S4 (fun r7 S6 => Q r7 S6)))))
set_option maxHeartbeats 4000000 in
set_option maxRecDepth 100000 in
theorem c_X11_worthAsIs (l : Launch) (D : va_G) (kA : Nat → ClassId) (ly : Nat → Nat) (n : List Nat) (hn : ∀ c, c < 59 → c ∈ n) (A : Nat → Prop) (a1 : Int32) (a2 : Int32) (a3 : Int32) : Ci l yX11_worthAsIs wsX11_worthAsIs 4 90 (Gp D (Ec kA ly) ly n A kA) A [.ref (ly 0), .int a1, .int a2, .int a3] (wp_X11_worthAsIs a1 a2 a3) := by
  intro S Q
  refine Met.ofW (cc := cX11_worthAsIs) (maxL := 4) (ret := (some .int)) (by decide) rfl ?_
  intro p e s m args below meth c s₁ B hml hv
  obtain ⟨rfl, ⟨hP, hD, hK, hN⟩, hw⟩ := hv
  have hx := B.exec
  have hb := B.bytes
  have hr := B.returns
  have hts := atoms_spec (ws := wsX11_worthAsIs) B.pre
  have hown : s.vm.findClass RX11 = some m.cls := findClass_of_methodNamed B.named
  have hlocks := B.notSynchronized
  have hH : Hp D (Ec kA ly) ly n A s.heap S s.heap [] := ⟨hP, hD, va_S.rf⟩
  have hiX11 : ∀ w ∈ u_ws RX11 TX11 12, w ∈ wsX11_worthAsIs := by decide +kernel
  have hiX10 : ∀ w ∈ u_ws RX10 TX10 6, w ∈ wsX11_worthAsIs := by decide +kernel
  have lk0 := hts (.fieldLink RX11 12 "SlowPanes" "trial" "LSlowPanes$Pane;") (by decide +kernel)
  have lk1 := hts (.fieldLink RX11 53 "SlowPanes" "world" "LSlowPanes$World;") (by decide +kernel)
  have lk2 := hts (.fieldLink RX11 124 "SlowPanes$World" "panes" "[LSlowPanes$Pane;") (by decide +kernel)
  have hl := lv_entry ([.ref (ly 0), .int a1, .int a2, .int a3]) (n := 4) (Nat.le_of_ble_eq_true rfl)
  rw [lg_entry_eq]
  generalize (lg_sl ([.ref (ly 0), .int a1, .int a2, .int a3]) ++ List.replicate (4 - (lg_sl ([.ref (ly 0), .int a1, .int a2, .int a3])).length) Slot.unset).toArray = ls at hl ⊢
  have hl : lv_has ls 4 [(0, .ref (ly 0)), (1, .int a1), (2, .int a2), (3, .int a3)] := hl
  rw [wp_X11_worthAsIs] at hw
  refine lv_aload_n hx hb dX11_worthAsIs_0 rfl (lv_at hl 0 rfl) ?_
  refine gf_this_0 hx hb hts hiX11 hown hK hn hH lk0 dX11_worthAsIs_1 ?_
  refine lv_aload_n hx hb dX11_worthAsIs_4 rfl (lv_at hl 0 rfl) ?_
  refine gf_this_8 hx hb hts hiX11 hown hK hn hH lk1 dX11_worthAsIs_5 ?_
  obtain ⟨o1, eo1⟩ : ∃ y : Nat, y = (gN S 0 8) := ⟨_, rfl⟩
  obtain ⟨ho1, hw⟩ := hw o1 eo1
  rw [← eo1]
  refine gf_w_2 hx hb hts hiX10 hown hK hn hH ho1 lk2 dX11_worthAsIs_8 ?_
  refine lv_iload_n hx hb dX11_worthAsIs_11 rfl (lv_at hl 1 rfl) ?_
  obtain ⟨hi_2, hw⟩ := hw
  obtain ⟨o3, eo3⟩ : ∃ y : Nat, y = gN S (o1 + 3) a1.toNatClampNeg := ⟨_, rfl⟩
  obtain ⟨ho3, hw⟩ := hw o3 eo3
  refine k_ald (t0 := 1) (v := .ref (ly o3)) hx hb hK hH (w_lt hn ho1 3 (by decide)) rfl (Ec_wp ho1) hi_2 (by rw [eo3]; rfl) dX11_worthAsIs_12 ?_
  refine k_aftv (va_runV (As := [.ref (ly o3)]) (rest := []) ⟨hx, hb, hml, hown, hts⟩ (c_X3_copyFrom l D kA ly n hn A 57 o3 S _) (cwV 1 hts gX11_worthAsIs_X3_copyFrom rfl rfl rfl (by decide +kernel) ⟨(Nat.le_of_ble_eq_true rfl), (Nat.le_of_ble_eq_true rfl)⟩) ⟨k_blind, (k_recv hK hH (pn_lt hn isPn57) (Ec_pn isPn57) rfl), k_pre hK hN hH hw⟩ rfl rfl hl.1 rfl (lv_room (Nat.le_of_ble_eq_true rfl)) dX11_worthAsIs_13 ⟨Nat.le_refl _, Nat.le_refl _⟩) hH (fun S4 H locs hw hH => ?_)
  refine lv_aload_n hx hb dX11_worthAsIs_16 rfl (lv_at hl 0 rfl) ?_
  refine gf_this_8 hx hb hts hiX11 hown hK hn hH lk1 dX11_worthAsIs_17 ?_
  obtain ⟨o5, eo5⟩ : ∃ y : Nat, y = (gN S4 0 8) := ⟨_, rfl⟩
  obtain ⟨ho5, hw⟩ := hw o5 eo5
  rw [← eo5]
  refine lv_aload_n hx hb dX11_worthAsIs_20 rfl (lv_at hl 0 rfl) ?_
  refine gf_this_0 hx hb hts hiX11 hown hK hn hH lk0 dX11_worthAsIs_21 ?_
  refine lv_iload_n hx hb dX11_worthAsIs_24 rfl (lv_at hl 2 rfl) ?_
  refine lv_iload_n hx hb dX11_worthAsIs_25 rfl (lv_at hl 3 rfl) ?_
  refine k_afti (va_runV (As := [.ref (ly 57), .int a2, .int a3]) (rest := []) ⟨hx, hb, hml, hown, hts⟩ (c_X10_worthOf l D kA ly n hn A o5 57 a2 a3 S4 _) (cwV 3 hts gX11_worthAsIs_X10_worthOf rfl rfl rfl (by decide +kernel) ⟨(Nat.le_of_ble_eq_true rfl), (Nat.le_of_ble_eq_true rfl)⟩) ⟨k_blind, (k_recv hK hH (w_lt0 hn ho5) (Ec_w ho5) rfl), k_pre hK hN hH hw⟩ rfl rfl hl.1 rfl (lv_room (Nat.le_of_ble_eq_true rfl)) dX11_worthAsIs_26 ⟨Nat.le_refl _, Nat.le_refl _⟩) hH (fun r7 S6 H locs hw hH => ?_)
  exact k_iret hx hb hr hlocks hK hN hH hw dX11_worthAsIs_29
def wp_X11_worth (a1 : Int32) (a2 : Int32) (a3 : Int32) (S : St) (Q : Int32 → St → Prop) : Prop := wp_X11_isPane a1 S (fun r2 S1 => ((r2 = 0 → Q (-1 : Int32) S1) ∧ (¬ r2 = 0 → wp_X11_isLooker a2 S1 (fun r5 S4 => ((r5 = 0 → Q (-1 : Int32) S4) ∧ (¬ r5 = 0 → wp_X11_isTrialLength a3 S4 (fun r8 S7 => ((r8 = 0 → Q (-1 : Int32) S7) ∧ (¬ r8 = 0 → wp_X11_worthAsIs a1 a2 a3 S7 (fun r11 S10 => Q r11 S10))))))))))
set_option maxHeartbeats 4000000 in
set_option maxRecDepth 100000 in
theorem c_X11_worth (l : Launch) (D : va_G) (kA : Nat → ClassId) (ly : Nat → Nat) (n : List Nat) (hn : ∀ c, c < 59 → c ∈ n) (A : Nat → Prop) (a1 : Int32) (a2 : Int32) (a3 : Int32) : Ci l yX11_worth wsX11_worth 5 113 (Gp D (Ec kA ly) ly n A kA) A [.ref (ly 0), .int a1, .int a2, .int a3] (wp_X11_worth a1 a2 a3) := by
  intro S Q
  refine Met.ofW (cc := cX11_worth) (maxL := 4) (ret := (some .int)) (by decide) rfl ?_
  intro p e s m args below meth c s₁ B hml hv
  obtain ⟨rfl, ⟨hP, hD, hK, hN⟩, hw⟩ := hv
  have hx := B.exec
  have hb := B.bytes
  have hr := B.returns
  have hts := atoms_spec (ws := wsX11_worth) B.pre
  have hown : s.vm.findClass RX11 = some m.cls := findClass_of_methodNamed B.named
  have hlocks := B.notSynchronized
  have hH : Hp D (Ec kA ly) ly n A s.heap S s.heap [] := ⟨hP, hD, va_S.rf⟩
  have hl := lv_entry ([.ref (ly 0), .int a1, .int a2, .int a3]) (n := 4) (Nat.le_of_ble_eq_true rfl)
  rw [lg_entry_eq]
  generalize (lg_sl ([.ref (ly 0), .int a1, .int a2, .int a3]) ++ List.replicate (4 - (lg_sl ([.ref (ly 0), .int a1, .int a2, .int a3])).length) Slot.unset).toArray = ls at hl ⊢
  have hl : lv_has ls 4 [(0, .ref (ly 0)), (1, .int a1), (2, .int a2), (3, .int a3)] := hl
  rw [wp_X11_worth] at hw
  refine lv_aload_n hx hb dX11_worth_0 rfl (lv_at hl 0 rfl) ?_
  refine lv_iload_n hx hb dX11_worth_1 rfl (lv_at hl 1 rfl) ?_
  refine k_afti (va_runV (As := [.int a1]) (rest := []) ⟨hx, hb, hml, hown, hts⟩ (c_X11_isPane l D kA ly n hn A a1 S _) (cwV 1 hts gX11_worth_X11_isPane rfl rfl rfl (by decide +kernel) ⟨(Nat.le_of_ble_eq_true rfl), (Nat.le_of_ble_eq_true rfl)⟩) ⟨k_blind, (k_recv hK hH (lt_n hn (by decide)) Ec_0 rfl), k_pre hK hN hH hw⟩ rfl rfl hl.1 rfl (lv_room (Nat.le_of_ble_eq_true rfl)) dX11_worth_2 ⟨Nat.le_refl _, Nat.le_refl _⟩) hH (fun r2 S1 H locs hw hH => ?_)
  refine lv_if_eq (tgt := 22) hx hb dX11_worth_5 (by decide) (fun hc3 => ?_) (fun hc3 => ?_)
  · replace hw := hw.1 hc3
    refine lv_iconst (v := -1) hx hb dX11_worth_22 (by decide +kernel) ?_
    exact k_iret hx hb hr hlocks hK hN hH hw dX11_worth_23
  · replace hw := hw.2 hc3
    refine lv_iload_n hx hb dX11_worth_8 rfl (lv_at hl 2 rfl) ?_
    refine k_afti (va_runS (As := [.int a2]) (rest := []) ⟨hx, hb, hml, hown, hts⟩ (c_X11_isLooker l D kA ly n hn A a2 S1 _) (va_cwS 1 hts gX11_worth_X11_isLooker rfl rfl rfl (by decide +kernel) ⟨(Nat.le_of_ble_eq_true rfl), (Nat.le_of_ble_eq_true rfl)⟩) ⟨k_blind, k_pre hK hN hH hw⟩ rfl rfl hl.1 rfl (lv_room (Nat.le_of_ble_eq_true rfl)) dX11_worth_9 ⟨Nat.le_refl _, Nat.le_refl _⟩) hH (fun r5 S4 H locs hw hH => ?_)
    refine lv_if_eq (tgt := 22) hx hb dX11_worth_12 (by decide) (fun hc6 => ?_) (fun hc6 => ?_)
    · replace hw := hw.1 hc6
      refine lv_iconst (v := -1) hx hb dX11_worth_22 (by decide +kernel) ?_
      exact k_iret hx hb hr hlocks hK hN hH hw dX11_worth_23
    · replace hw := hw.2 hc6
      refine lv_iload_n hx hb dX11_worth_15 rfl (lv_at hl 3 rfl) ?_
      refine k_afti (va_runS (As := [.int a3]) (rest := []) ⟨hx, hb, hml, hown, hts⟩ (c_X11_isTrialLength l D kA ly n hn A a3 S4 _) (va_cwS 1 hts gX11_worth_X11_isTrialLength rfl rfl rfl (by decide +kernel) ⟨(Nat.le_of_ble_eq_true rfl), (Nat.le_of_ble_eq_true rfl)⟩) ⟨k_blind, k_pre hK hN hH hw⟩ rfl rfl hl.1 rfl (lv_room (Nat.le_of_ble_eq_true rfl)) dX11_worth_16 ⟨Nat.le_refl _, Nat.le_refl _⟩) hH (fun r8 S7 H locs hw hH => ?_)
      refine lv_if_ne (tgt := 24) hx hb dX11_worth_19 (by decide) (fun hc9 => ?_) (fun hc9 => ?_)
      · replace hw := hw.2 hc9
        refine lv_aload_n hx hb dX11_worth_24 rfl (lv_at hl 0 rfl) ?_
        refine lv_iload_n hx hb dX11_worth_25 rfl (lv_at hl 1 rfl) ?_
        refine lv_iload_n hx hb dX11_worth_26 rfl (lv_at hl 2 rfl) ?_
        refine lv_iload_n hx hb dX11_worth_27 rfl (lv_at hl 3 rfl) ?_
        refine k_afti (va_runV (As := [.int a1, .int a2, .int a3]) (rest := []) ⟨hx, hb, hml, hown, hts⟩ (c_X11_worthAsIs l D kA ly n hn A a1 a2 a3 S7 _) (cwV 3 hts gX11_worth_X11_worthAsIs rfl rfl rfl (by decide +kernel) ⟨(Nat.le_of_ble_eq_true rfl), (Nat.le_of_ble_eq_true rfl)⟩) ⟨k_blind, (k_recv hK hH (lt_n hn (by decide)) Ec_0 rfl), k_pre hK hN hH hw⟩ rfl rfl hl.1 rfl (lv_room (Nat.le_of_ble_eq_true rfl)) dX11_worth_28 ⟨Nat.le_refl _, Nat.le_refl _⟩) hH (fun r11 S10 H locs hw hH => ?_)
        exact k_iret hx hb hr hlocks hK hN hH hw dX11_worth_31
      · replace hw := hw.1 hc9
        refine lv_iconst (v := -1) hx hb dX11_worth_22 (by decide +kernel) ?_
        exact k_iret hx hb hr hlocks hK hN hH hw dX11_worth_23
def wl_X11_buy_25 (a1 : Int32) (a2 : Int32) (K_25 : Int32 → Int32 → Int32 → St → Prop) : Nat → Int32 → Int32 → Int32 → St → Prop
  | 0, _, _, _, _ => False
  | fu_25 + 1, v3_25, v4_25, v5_25, S_25 => (∀ o7 : Nat, o7 = (gN S_25 0 8) → isW o7 ∧ (((gI S_25 o7 3) ≤ v5_25 → K_25 v3_25 v4_25 v5_25 S_25) ∧ (¬ (gI S_25 o7 3) ≤ v5_25 → wp_X11_worthAsIs v5_25 a1 a2 S_25 (fun r10 S9 => ((r10 ≤ v4_25 → (∀ t12 : Int32, t12 = v5_25 + 1 → wl_X11_buy_25 a1 a2 K_25 fu_25 v3_25 v4_25 t12 S9)) ∧ (¬ r10 ≤ v4_25 → (∀ t13 : Int32, t13 = v5_25 + 1 → wl_X11_buy_25 a1 a2 K_25 fu_25 v5_25 r10 t13 S9)))))))
def wp_X11_buy (a1 : Int32) (a2 : Int32) (S : St) (Q : Int32 → St → Prop) : Prop := wp_X11_isLooker a1 S (fun r2 S1 => ((r2 = 0 → Q (-1 : Int32) S1) ∧ (¬ r2 = 0 → wp_X11_isTrialLength a2 S1 (fun r5 S4 => ((r5 = 0 → Q (-1 : Int32) S4) ∧ (¬ r5 = 0 → (∃ m_25 : Nat, wl_X11_buy_25 a1 a2 (fun e3_14 e4_15 e5_16 S17 => Q e3_14 S17) m_25 (-3 : Int32) (-1 : Int32) (0 : Int32) S4)))))))
set_option maxHeartbeats 4000000 in
set_option maxRecDepth 100000 in
theorem c_X11_buy (l : Launch) (D : va_G) (kA : Nat → ClassId) (ly : Nat → Nat) (n : List Nat) (hn : ∀ c, c < 59 → c ∈ n) (A : Nat → Prop) (a1 : Int32) (a2 : Int32) : Ci l yX11_buy wsX11_buy 5 113 (Gp D (Ec kA ly) ly n A kA) A [.ref (ly 0), .int a1, .int a2] (wp_X11_buy a1 a2) := by
  intro S Q
  refine Met.ofW (cc := cX11_buy) (maxL := 7) (ret := (some .int)) (by decide) rfl ?_
  intro p e s m args below meth c s₁ B hml hv
  obtain ⟨rfl, ⟨hP, hD, hK, hN⟩, hw⟩ := hv
  have hx := B.exec
  have hb := B.bytes
  have hr := B.returns
  have hts := atoms_spec (ws := wsX11_buy) B.pre
  have hown : s.vm.findClass RX11 = some m.cls := findClass_of_methodNamed B.named
  have hlocks := B.notSynchronized
  have hH : Hp D (Ec kA ly) ly n A s.heap S s.heap [] := ⟨hP, hD, va_S.rf⟩
  have hiX11 : ∀ w ∈ u_ws RX11 TX11 12, w ∈ wsX11_buy := by decide +kernel
  have hiX10 : ∀ w ∈ u_ws RX10 TX10 6, w ∈ wsX11_buy := by decide +kernel
  have lk0 := hts (.fieldLink RX11 53 "SlowPanes" "world" "LSlowPanes$World;") (by decide +kernel)
  have lk1 := hts (.fieldLink RX11 84 "SlowPanes$World" "count" "I") (by decide +kernel)
  have hl := lv_entry ([.ref (ly 0), .int a1, .int a2]) (n := 7) (Nat.le_of_ble_eq_true rfl)
  rw [lg_entry_eq]
  generalize (lg_sl ([.ref (ly 0), .int a1, .int a2]) ++ List.replicate (7 - (lg_sl ([.ref (ly 0), .int a1, .int a2])).length) Slot.unset).toArray = ls at hl ⊢
  have hl : lv_has ls 7 [(0, .ref (ly 0)), (1, .int a1), (2, .int a2)] := hl
  rw [wp_X11_buy] at hw
  refine lv_iload_n hx hb dX11_buy_0 rfl (lv_at hl 1 rfl) ?_
  refine k_afti (va_runS (As := [.int a1]) (rest := []) ⟨hx, hb, hml, hown, hts⟩ (c_X11_isLooker l D kA ly n hn A a1 S _) (va_cwS 1 hts gX11_buy_X11_isLooker rfl rfl rfl (by decide +kernel) ⟨(Nat.le_of_ble_eq_true rfl), (Nat.le_of_ble_eq_true rfl)⟩) ⟨k_blind, k_pre hK hN hH hw⟩ rfl rfl hl.1 rfl (lv_room (Nat.le_of_ble_eq_true rfl)) dX11_buy_1 ⟨Nat.le_refl _, Nat.le_refl _⟩) hH (fun r2 S1 H locs hw hH => ?_)
  refine lv_if_eq (tgt := 14) hx hb dX11_buy_4 (by decide) (fun hc3 => ?_) (fun hc3 => ?_)
  · replace hw := hw.1 hc3
    refine lv_iconst (v := -1) hx hb dX11_buy_14 (by decide +kernel) ?_
    exact k_iret hx hb hr hlocks hK hN hH hw dX11_buy_15
  · replace hw := hw.2 hc3
    refine lv_iload_n hx hb dX11_buy_7 rfl (lv_at hl 2 rfl) ?_
    refine k_afti (va_runS (As := [.int a2]) (rest := []) ⟨hx, hb, hml, hown, hts⟩ (c_X11_isTrialLength l D kA ly n hn A a2 S1 _) (va_cwS 1 hts gX11_buy_X11_isTrialLength rfl rfl rfl (by decide +kernel) ⟨(Nat.le_of_ble_eq_true rfl), (Nat.le_of_ble_eq_true rfl)⟩) ⟨k_blind, k_pre hK hN hH hw⟩ rfl rfl hl.1 rfl (lv_room (Nat.le_of_ble_eq_true rfl)) dX11_buy_8 ⟨Nat.le_refl _, Nat.le_refl _⟩) hH (fun r5 S4 H locs hw hH => ?_)
    refine lv_if_ne (tgt := 16) hx hb dX11_buy_11 (by decide) (fun hc6 => ?_) (fun hc6 => ?_)
    · replace hw := hw.2 hc6
      refine lv_bipush (v := -3) hx hb dX11_buy_16 (by decide +kernel) ?_
      refine lv_istore_n (lv' := [(3, .int (-3 : Int32)), (0, .ref (ly 0)), (1, .int a1), (2, .int a2)]) hx hb dX11_buy_18 rfl hl (by decide) rfl (fun ls hl => ?_)
      refine lv_iconst (v := -1) hx hb dX11_buy_19 (by decide +kernel) ?_
      refine lv_istore (lv' := [(4, .int (-1 : Int32)), (3, .int (-3 : Int32)), (0, .ref (ly 0)), (1, .int a1), (2, .int a2)]) hx hb dX11_buy_20 hl (by decide) rfl (fun ls hl => ?_)
      refine lv_iconst (v := 0) hx hb dX11_buy_22 (by decide +kernel) ?_
      refine lv_istore (lv' := [(5, .int (0 : Int32)), (4, .int (-1 : Int32)), (3, .int (-3 : Int32)), (0, .ref (ly 0)), (1, .int a1), (2, .int a2)]) hx hb dX11_buy_23 hl (by decide) rfl (fun ls hl => ?_)
      have L_25 : ∀ (K_25 : Int32 → Int32 → Int32 → St → Prop) (hk_25 : ∀ (v3_25 : Int32) (v4_25 : Int32) (v5_25 : Int32) (S_25 : St) (H : Heap) (locs : List Loc) (ls : Array Slot), K_25 v3_25 v4_25 v5_25 S_25 → Hp D (Ec kA ly) ly n A s.heap S_25 H locs → lv_has ls 7 [(0, .ref (ly 0)), (1, .int a1), (2, .int a2), (3, .int v3_25), (4, .int v4_25), (5, .int v5_25)] → W p l e (headSpec wsX11_buy { frames := 5, cells := 0, slots := 0, locals := 113 }).room s m [.ref (ly 0), .int a1, .int a2].toArray below meth c H locs 0 0 (MQ below (va_Qi Q (Gp D (Ec kA ly) ly n A kA) A) [.ref (ly 0), .int a1, .int a2].toArray s 0 0 A) (F0 m 67 ls [])) (fu_25 : Nat) (v3_25 : Int32) (v4_25 : Int32) (v5_25 : Int32) (S_25 : St) (H : Heap) (locs : List Loc) (ls : Array Slot), wl_X11_buy_25 a1 a2 K_25 fu_25 v3_25 v4_25 v5_25 S_25 → Hp D (Ec kA ly) ly n A s.heap S_25 H locs → lv_has ls 7 [(0, .ref (ly 0)), (1, .int a1), (2, .int a2), (3, .int v3_25), (4, .int v4_25), (5, .int v5_25)] → W p l e (headSpec wsX11_buy { frames := 5, cells := 0, slots := 0, locals := 113 }).room s m [.ref (ly 0), .int a1, .int a2].toArray below meth c H locs 0 0 (MQ below (va_Qi Q (Gp D (Ec kA ly) ly n A kA) A) [.ref (ly 0), .int a1, .int a2].toArray s 0 0 A) (F0 m 25 ls []) := by
        intro K_25 hk_25 fu_25
        induction fu_25 with
        | zero => intro v3_25 v4_25 v5_25 S_25 H locs ls hw hH hl; rw [wl_X11_buy_25] at hw; exact hw.elim
        | succ fu_25 ih_25 =>
          intro v3_25 v4_25 v5_25 S_25 H locs ls hw hH hl
          rw [wl_X11_buy_25] at hw
          refine lv_iload hx hb dX11_buy_25 (lv_at hl 5 rfl) ?_
          refine lv_aload_n hx hb dX11_buy_27 rfl (lv_at hl 0 rfl) ?_
          refine gf_this_8 hx hb hts hiX11 hown hK hn hH lk0 dX11_buy_28 ?_
          obtain ⟨o7, eo7⟩ : ∃ y : Nat, y = (gN S_25 0 8) := ⟨_, rfl⟩
          obtain ⟨ho7, hw⟩ := hw o7 eo7
          rw [← eo7]
          refine gf_w_3 hx hb hts hiX10 hown hK hn hH ho7 lk1 dX11_buy_31 ?_
          refine lv_icmp_ge (tgt := 67) hx hb dX11_buy_34 (by decide) (fun hc8 => ?_) (fun hc8 => ?_)
          · replace hw := hw.1 hc8
            exact hk_25 v3_25 v4_25 v5_25 S_25 _ _ ls hw hH (lv_sub hl [0, 1, 2, 3, 4, 5] rfl)
          · replace hw := hw.2 hc8
            refine lv_aload_n hx hb dX11_buy_37 rfl (lv_at hl 0 rfl) ?_
            refine lv_iload hx hb dX11_buy_38 (lv_at hl 5 rfl) ?_
            refine lv_iload_n hx hb dX11_buy_40 rfl (lv_at hl 1 rfl) ?_
            refine lv_iload_n hx hb dX11_buy_41 rfl (lv_at hl 2 rfl) ?_
            refine k_afti (va_runV (As := [.int v5_25, .int a1, .int a2]) (rest := []) ⟨hx, hb, hml, hown, hts⟩ (c_X11_worthAsIs l D kA ly n hn A v5_25 a1 a2 S_25 _) (cwV 3 hts gX11_buy_X11_worthAsIs rfl rfl rfl (by decide +kernel) ⟨(Nat.le_of_ble_eq_true rfl), (Nat.le_of_ble_eq_true rfl)⟩) ⟨k_blind, (k_recv hK hH (lt_n hn (by decide)) Ec_0 rfl), k_pre hK hN hH hw⟩ rfl rfl hl.1 rfl (lv_room (Nat.le_of_ble_eq_true rfl)) dX11_buy_42 ⟨Nat.le_refl _, Nat.le_refl _⟩) hH (fun r10 S9 H locs hw hH => ?_)
            refine lv_istore (lv' := [(6, .int r10), (0, .ref (ly 0)), (1, .int a1), (2, .int a2), (3, .int v3_25), (4, .int v4_25), (5, .int v5_25)]) hx hb dX11_buy_45 hl (by decide) rfl (fun ls hl => ?_)
            refine lv_iload hx hb dX11_buy_47 (lv_at hl 0 rfl) ?_
            refine lv_iload hx hb dX11_buy_49 (lv_at hl 5 rfl) ?_
            refine lv_icmp_le (tgt := 61) hx hb dX11_buy_51 (by decide) (fun hc11 => ?_) (fun hc11 => ?_)
            · replace hw := hw.1 hc11
              obtain ⟨t12, et12⟩ : ∃ y : Int32, y = v5_25 + 1 := ⟨_, rfl⟩
              replace hw := hw t12 et12
              refine lv_iinc (v := t12) (lv' := [(5, .int t12), (6, .int r10), (0, .ref (ly 0)), (1, .int a1), (2, .int a2), (3, .int v3_25), (4, .int v4_25)]) hx hb dX11_buy_61 hl (k := 6) rfl (by rw [et12]; rfl) (by decide) rfl (fun ls hl => ?_)
              refine lv_goto (tgt := 25) hx hb dX11_buy_64 (by decide) ?_
              exact ih_25 v3_25 v4_25 t12 S9 _ _ ls hw hH (lv_sub hl [2, 3, 4, 5, 6, 0] rfl)
            · replace hw := hw.2 hc11
              refine lv_iload hx hb dX11_buy_54 (lv_at hl 0 rfl) ?_
              refine lv_istore (lv' := [(4, .int r10), (6, .int r10), (0, .ref (ly 0)), (1, .int a1), (2, .int a2), (3, .int v3_25), (5, .int v5_25)]) hx hb dX11_buy_56 hl (by decide) rfl (fun ls hl => ?_)
              refine lv_iload hx hb dX11_buy_58 (lv_at hl 6 rfl) ?_
              refine lv_istore_n (lv' := [(3, .int v5_25), (4, .int r10), (6, .int r10), (0, .ref (ly 0)), (1, .int a1), (2, .int a2), (5, .int v5_25)]) hx hb dX11_buy_60 rfl hl (by decide) rfl (fun ls hl => ?_)
              obtain ⟨t13, et13⟩ : ∃ y : Int32, y = v5_25 + 1 := ⟨_, rfl⟩
              replace hw := hw t13 et13
              refine lv_iinc (v := t13) (lv' := [(5, .int t13), (3, .int v5_25), (4, .int r10), (6, .int r10), (0, .ref (ly 0)), (1, .int a1), (2, .int a2)]) hx hb dX11_buy_61 hl (k := 6) rfl (by rw [et13]; rfl) (by decide) rfl (fun ls hl => ?_)
              refine lv_goto (tgt := 25) hx hb dX11_buy_64 (by decide) ?_
              exact ih_25 v5_25 r10 t13 S9 _ _ ls hw hH (lv_sub hl [4, 5, 6, 1, 2, 0] rfl)
      obtain ⟨m_25, hw⟩ := hw
      refine L_25 _ (fun e3_14 e4_15 e5_16 S17 H locs ls hw hH hl => ?_) m_25 (-3 : Int32) (-1 : Int32) (0 : Int32) S4 _ _ ls hw hH (lv_sub hl [3, 4, 5, 2, 1, 0] rfl)
      refine lv_iload_n hx hb dX11_buy_67 rfl (lv_at hl 3 rfl) ?_
      exact k_iret hx hb hr hlocks hK hN hH hw dX11_buy_68
    · replace hw := hw.1 hc6
      refine lv_iconst (v := -1) hx hb dX11_buy_14 (by decide +kernel) ?_
      exact k_iret hx hb hr hlocks hK hN hH hw dX11_buy_15
