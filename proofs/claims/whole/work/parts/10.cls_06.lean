def wl_X11_let_33 (a1 : Int32) (a2 : Int32) (a3 : Int32) (K_33 : Int32 → Int32 → Int32 → St → Prop) : Nat → Int32 → Int32 → Int32 → St → Prop
  | 0, _, _, _, _ => False
  | fu_33 + 1, v4_33, v5_33, v6_33, S_33 => (((4 : Int32) < v6_33 → K_33 v4_33 v5_33 v6_33 S_33) ∧ (¬ (4 : Int32) < v6_33 → (∀ o11 : Nat, o11 = (gN S_33 0 8) → isW o11 ∧ (vp_in a1 6 ∧ ∀ o13 : Nat, o13 = gN S_33 (o11 + 3) a1.toNatClampNeg → isPn o13 ∧ wp_X3_copyFrom 57 o13 S_33 (fun S14 => (∀ S15 : St, S15 = sI S14 57 4 v6_33 → (∀ o16 : Nat, o16 = (gN S15 0 8) → isW o16 ∧ wp_X10_worthOf o16 57 a2 a3 S15 (fun r18 S17 => ((r18 ≤ v5_33 → (∀ t20 : Int32, t20 = v6_33 + 1 → wl_X11_let_33 a1 a2 a3 K_33 fu_33 v4_33 v5_33 t20 S17)) ∧ (¬ r18 ≤ v5_33 → (∀ t21 : Int32, t21 = v6_33 + 1 → wl_X11_let_33 a1 a2 a3 K_33 fu_33 v6_33 r18 t21 S17)))))))))))
def wp_X11_let (a1 : Int32) (a2 : Int32) (a3 : Int32) (S : St) (Q : Int32 → St → Prop) : Prop := wp_X11_isPane a1 S (fun r2 S1 => ((r2 = 0 → Q (-1 : Int32) S1) ∧ (¬ r2 = 0 → wp_X11_isLooker a2 S1 (fun r5 S4 => ((r5 = 0 → Q (-1 : Int32) S4) ∧ (¬ r5 = 0 → wp_X11_isTrialLength a3 S4 (fun r8 S7 => ((r8 = 0 → Q (-1 : Int32) S7) ∧ (¬ r8 = 0 → (∃ m_33 : Nat, wl_X11_let_33 a1 a2 a3 (fun e4_22 e5_23 e6_24 S25 => Q e4_22 S25) m_33 (0 : Int32) (-1 : Int32) (0 : Int32) S7))))))))))
set_option maxHeartbeats 4000000 in
set_option maxRecDepth 100000 in
theorem c_X11_let (l : Launch) (D : va_G) (kA : Nat → ClassId) (ly : Nat → Nat) (n : List Nat) (hn : ∀ c, c < 59 → c ∈ n) (A : Nat → Prop) (a1 : Int32) (a2 : Int32) (a3 : Int32) : Ci l yX11_let wsX11_let 4 90 (Gp D (Ec kA ly) ly n A kA) A [.ref (ly 0), .int a1, .int a2, .int a3] (wp_X11_let a1 a2 a3) := by
  intro S Q
  refine Met.ofW (cc := cX11_let) (maxL := 8) (ret := (some .int)) (by decide) rfl ?_
  intro p e s m args below meth c s₁ B hml hv
  obtain ⟨rfl, ⟨hP, hD, hK, hN⟩, hw⟩ := hv
  have hx := B.exec
  have hb := B.bytes
  have hr := B.returns
  have hts := atoms_spec (ws := wsX11_let) B.pre
  have hown : s.vm.findClass RX11 = some m.cls := findClass_of_methodNamed B.named
  have hlocks := B.notSynchronized
  have hH : Hp D (Ec kA ly) ly n A s.heap S s.heap [] := ⟨hP, hD, va_S.rf⟩
  have hiX11 : ∀ w ∈ u_ws RX11 TX11 12, w ∈ wsX11_let := by decide +kernel
  have hiX10 : ∀ w ∈ u_ws RX10 TX10 6, w ∈ wsX11_let := by decide +kernel
  have hiX3 : ∀ w ∈ u_ws RX3 TX3 5, w ∈ wsX11_let := by decide +kernel
  have lk0 := hts (.fieldLink RX11 12 "SlowPanes" "trial" "LSlowPanes$Pane;") (by decide +kernel)
  have lk1 := hts (.fieldLink RX11 53 "SlowPanes" "world" "LSlowPanes$World;") (by decide +kernel)
  have lk2 := hts (.fieldLink RX11 124 "SlowPanes$World" "panes" "[LSlowPanes$Pane;") (by decide +kernel)
  have lk3 := hts (.fieldLink RX11 150 "SlowPanes$Pane" "place" "I") (by decide +kernel)
  have hl := lv_entry ([.ref (ly 0), .int a1, .int a2, .int a3]) (n := 8) (Nat.le_of_ble_eq_true rfl)
  rw [lg_entry_eq]
  generalize (lg_sl ([.ref (ly 0), .int a1, .int a2, .int a3]) ++ List.replicate (8 - (lg_sl ([.ref (ly 0), .int a1, .int a2, .int a3])).length) Slot.unset).toArray = ls at hl ⊢
  have hl : lv_has ls 8 [(0, .ref (ly 0)), (1, .int a1), (2, .int a2), (3, .int a3)] := hl
  rw [wp_X11_let] at hw
  refine lv_aload_n hx hb dX11_let_0 rfl (lv_at hl 0 rfl) ?_
  refine lv_iload_n hx hb dX11_let_1 rfl (lv_at hl 1 rfl) ?_
  refine k_afti (va_runV (As := [.int a1]) (rest := []) ⟨hx, hb, hml, hown, hts⟩ (c_X11_isPane l D kA ly n hn A a1 S _) (cwV 1 hts gX11_let_X11_isPane rfl rfl rfl (by decide +kernel) ⟨(Nat.le_of_ble_eq_true rfl), (Nat.le_of_ble_eq_true rfl)⟩) ⟨k_blind, (k_recv hK hH (lt_n hn (by decide)) Ec_0 rfl), k_pre hK hN hH hw⟩ rfl rfl hl.1 rfl (lv_room (Nat.le_of_ble_eq_true rfl)) dX11_let_2 ⟨Nat.le_refl _, Nat.le_refl _⟩) hH (fun r2 S1 H locs hw hH => ?_)
  refine lv_if_eq (tgt := 22) hx hb dX11_let_5 (by decide) (fun hc3 => ?_) (fun hc3 => ?_)
  · replace hw := hw.1 hc3
    refine lv_iconst (v := -1) hx hb dX11_let_22 (by decide +kernel) ?_
    exact k_iret hx hb hr hlocks hK hN hH hw dX11_let_23
  · replace hw := hw.2 hc3
    refine lv_iload_n hx hb dX11_let_8 rfl (lv_at hl 2 rfl) ?_
    refine k_afti (va_runS (As := [.int a2]) (rest := []) ⟨hx, hb, hml, hown, hts⟩ (c_X11_isLooker l D kA ly n hn A a2 S1 _) (va_cwS 1 hts gX11_let_X11_isLooker rfl rfl rfl (by decide +kernel) ⟨(Nat.le_of_ble_eq_true rfl), (Nat.le_of_ble_eq_true rfl)⟩) ⟨k_blind, k_pre hK hN hH hw⟩ rfl rfl hl.1 rfl (lv_room (Nat.le_of_ble_eq_true rfl)) dX11_let_9 ⟨Nat.le_refl _, Nat.le_refl _⟩) hH (fun r5 S4 H locs hw hH => ?_)
    refine lv_if_eq (tgt := 22) hx hb dX11_let_12 (by decide) (fun hc6 => ?_) (fun hc6 => ?_)
    · replace hw := hw.1 hc6
      refine lv_iconst (v := -1) hx hb dX11_let_22 (by decide +kernel) ?_
      exact k_iret hx hb hr hlocks hK hN hH hw dX11_let_23
    · replace hw := hw.2 hc6
      refine lv_iload_n hx hb dX11_let_15 rfl (lv_at hl 3 rfl) ?_
      refine k_afti (va_runS (As := [.int a3]) (rest := []) ⟨hx, hb, hml, hown, hts⟩ (c_X11_isTrialLength l D kA ly n hn A a3 S4 _) (va_cwS 1 hts gX11_let_X11_isTrialLength rfl rfl rfl (by decide +kernel) ⟨(Nat.le_of_ble_eq_true rfl), (Nat.le_of_ble_eq_true rfl)⟩) ⟨k_blind, k_pre hK hN hH hw⟩ rfl rfl hl.1 rfl (lv_room (Nat.le_of_ble_eq_true rfl)) dX11_let_16 ⟨Nat.le_refl _, Nat.le_refl _⟩) hH (fun r8 S7 H locs hw hH => ?_)
      refine lv_if_ne (tgt := 24) hx hb dX11_let_19 (by decide) (fun hc9 => ?_) (fun hc9 => ?_)
      · replace hw := hw.2 hc9
        refine lv_iconst (v := 0) hx hb dX11_let_24 (by decide +kernel) ?_
        refine lv_istore (lv' := [(4, .int (0 : Int32)), (0, .ref (ly 0)), (1, .int a1), (2, .int a2), (3, .int a3)]) hx hb dX11_let_25 hl (by decide) rfl (fun ls hl => ?_)
        refine lv_iconst (v := -1) hx hb dX11_let_27 (by decide +kernel) ?_
        refine lv_istore (lv' := [(5, .int (-1 : Int32)), (4, .int (0 : Int32)), (0, .ref (ly 0)), (1, .int a1), (2, .int a2), (3, .int a3)]) hx hb dX11_let_28 hl (by decide) rfl (fun ls hl => ?_)
        refine lv_iconst (v := 0) hx hb dX11_let_30 (by decide +kernel) ?_
        refine lv_istore (lv' := [(6, .int (0 : Int32)), (5, .int (-1 : Int32)), (4, .int (0 : Int32)), (0, .ref (ly 0)), (1, .int a1), (2, .int a2), (3, .int a3)]) hx hb dX11_let_31 hl (by decide) rfl (fun ls hl => ?_)
        have L_33 : ∀ (K_33 : Int32 → Int32 → Int32 → St → Prop) (hk_33 : ∀ (v4_33 : Int32) (v5_33 : Int32) (v6_33 : Int32) (S_33 : St) (H : Heap) (locs : List Loc) (ls : Array Slot), K_33 v4_33 v5_33 v6_33 S_33 → Hp D (Ec kA ly) ly n A s.heap S_33 H locs → lv_has ls 8 [(0, .ref (ly 0)), (1, .int a1), (2, .int a2), (3, .int a3), (4, .int v4_33), (5, .int v5_33), (6, .int v6_33)] → W p l e (headSpec wsX11_let { frames := 4, cells := 0, slots := 0, locals := 90 }).room s m [.ref (ly 0), .int a1, .int a2, .int a3].toArray below meth c H locs 0 0 (MQ below (va_Qi Q (Gp D (Ec kA ly) ly n A kA) A) [.ref (ly 0), .int a1, .int a2, .int a3].toArray s 0 0 A) (F0 m 100 ls [])) (fu_33 : Nat) (v4_33 : Int32) (v5_33 : Int32) (v6_33 : Int32) (S_33 : St) (H : Heap) (locs : List Loc) (ls : Array Slot), wl_X11_let_33 a1 a2 a3 K_33 fu_33 v4_33 v5_33 v6_33 S_33 → Hp D (Ec kA ly) ly n A s.heap S_33 H locs → lv_has ls 8 [(0, .ref (ly 0)), (1, .int a1), (2, .int a2), (3, .int a3), (4, .int v4_33), (5, .int v5_33), (6, .int v6_33)] → W p l e (headSpec wsX11_let { frames := 4, cells := 0, slots := 0, locals := 90 }).room s m [.ref (ly 0), .int a1, .int a2, .int a3].toArray below meth c H locs 0 0 (MQ below (va_Qi Q (Gp D (Ec kA ly) ly n A kA) A) [.ref (ly 0), .int a1, .int a2, .int a3].toArray s 0 0 A) (F0 m 33 ls []) := by
          intro K_33 hk_33 fu_33
          induction fu_33 with
          | zero => intro v4_33 v5_33 v6_33 S_33 H locs ls hw hH hl; rw [wl_X11_let_33] at hw; exact hw.elim
          | succ fu_33 ih_33 =>
            intro v4_33 v5_33 v6_33 S_33 H locs ls hw hH hl
            rw [wl_X11_let_33] at hw
            refine lv_iload hx hb dX11_let_33 (lv_at hl 6 rfl) ?_
            refine lv_iconst (v := 4) hx hb dX11_let_35 (by decide +kernel) ?_
            refine lv_icmp_gt (tgt := 100) hx hb dX11_let_36 (by decide) (fun hc10 => ?_) (fun hc10 => ?_)
            · replace hw := hw.1 hc10
              exact hk_33 v4_33 v5_33 v6_33 S_33 _ _ ls hw hH (lv_sub hl [0, 1, 2, 3, 4, 5, 6] rfl)
            · replace hw := hw.2 hc10
              refine lv_aload_n hx hb dX11_let_39 rfl (lv_at hl 0 rfl) ?_
              refine gf_this_0 hx hb hts hiX11 hown hK hn hH lk0 dX11_let_40 ?_
              refine lv_aload_n hx hb dX11_let_43 rfl (lv_at hl 0 rfl) ?_
              refine gf_this_8 hx hb hts hiX11 hown hK hn hH lk1 dX11_let_44 ?_
              obtain ⟨o11, eo11⟩ : ∃ y : Nat, y = (gN S_33 0 8) := ⟨_, rfl⟩
              obtain ⟨ho11, hw⟩ := hw o11 eo11
              rw [← eo11]
              refine gf_w_2 hx hb hts hiX10 hown hK hn hH ho11 lk2 dX11_let_47 ?_
              refine lv_iload_n hx hb dX11_let_50 rfl (lv_at hl 1 rfl) ?_
              obtain ⟨hi_12, hw⟩ := hw
              obtain ⟨o13, eo13⟩ : ∃ y : Nat, y = gN S_33 (o11 + 3) a1.toNatClampNeg := ⟨_, rfl⟩
              obtain ⟨ho13, hw⟩ := hw o13 eo13
              refine k_ald (t0 := 1) (v := .ref (ly o13)) hx hb hK hH (w_lt hn ho11 3 (by decide)) rfl (Ec_wp ho11) hi_12 (by rw [eo13]; rfl) dX11_let_51 ?_
              refine k_aftv (va_runV (As := [.ref (ly o13)]) (rest := []) ⟨hx, hb, hml, hown, hts⟩ (c_X3_copyFrom l D kA ly n hn A 57 o13 S_33 _) (cwV 1 hts gX11_let_X3_copyFrom rfl rfl rfl (by decide +kernel) ⟨(Nat.le_of_ble_eq_true rfl), (Nat.le_of_ble_eq_true rfl)⟩) ⟨k_blind, (k_recv hK hH (pn_lt hn isPn57) (Ec_pn isPn57) rfl), k_pre hK hN hH hw⟩ rfl rfl hl.1 rfl (lv_room (Nat.le_of_ble_eq_true rfl)) dX11_let_52 ⟨Nat.le_refl _, Nat.le_refl _⟩) hH (fun S14 H locs hw hH => ?_)
              refine lv_aload_n hx hb dX11_let_55 rfl (lv_at hl 0 rfl) ?_
              refine gf_this_0 hx hb hts hiX11 hown hK hn hH lk0 dX11_let_56 ?_
              refine lv_iload hx hb dX11_let_59 (lv_at hl 6 rfl) ?_
              refine pf_pn_4 hx hb hts hiX3 hown hK hn hH isPn57 lk3 dX11_let_61 (fun S15 H locs eS15 hH => ?_)
              replace hw := hw S15 eS15
              refine lv_aload_n hx hb dX11_let_64 rfl (lv_at hl 0 rfl) ?_
              refine gf_this_8 hx hb hts hiX11 hown hK hn hH lk1 dX11_let_65 ?_
              obtain ⟨o16, eo16⟩ : ∃ y : Nat, y = (gN S15 0 8) := ⟨_, rfl⟩
              obtain ⟨ho16, hw⟩ := hw o16 eo16
              rw [← eo16]
              refine lv_aload_n hx hb dX11_let_68 rfl (lv_at hl 0 rfl) ?_
              refine gf_this_0 hx hb hts hiX11 hown hK hn hH lk0 dX11_let_69 ?_
              refine lv_iload_n hx hb dX11_let_72 rfl (lv_at hl 2 rfl) ?_
              refine lv_iload_n hx hb dX11_let_73 rfl (lv_at hl 3 rfl) ?_
              refine k_afti (va_runV (As := [.ref (ly 57), .int a2, .int a3]) (rest := []) ⟨hx, hb, hml, hown, hts⟩ (c_X10_worthOf l D kA ly n hn A o16 57 a2 a3 S15 _) (cwV 3 hts gX11_let_X10_worthOf rfl rfl rfl (by decide +kernel) ⟨(Nat.le_of_ble_eq_true rfl), (Nat.le_of_ble_eq_true rfl)⟩) ⟨k_blind, (k_recv hK hH (w_lt0 hn ho16) (Ec_w ho16) rfl), k_pre hK hN hH hw⟩ rfl rfl hl.1 rfl (lv_room (Nat.le_of_ble_eq_true rfl)) dX11_let_74 ⟨Nat.le_refl _, Nat.le_refl _⟩) hH (fun r18 S17 H locs hw hH => ?_)
              refine lv_istore (lv' := [(7, .int r18), (0, .ref (ly 0)), (1, .int a1), (2, .int a2), (3, .int a3), (4, .int v4_33), (5, .int v5_33), (6, .int v6_33)]) hx hb dX11_let_77 hl (by decide) rfl (fun ls hl => ?_)
              refine lv_iload hx hb dX11_let_79 (lv_at hl 0 rfl) ?_
              refine lv_iload hx hb dX11_let_81 (lv_at hl 6 rfl) ?_
              refine lv_icmp_le (tgt := 94) hx hb dX11_let_83 (by decide) (fun hc19 => ?_) (fun hc19 => ?_)
              · replace hw := hw.1 hc19
                obtain ⟨t20, et20⟩ : ∃ y : Int32, y = v6_33 + 1 := ⟨_, rfl⟩
                replace hw := hw t20 et20
                refine lv_iinc (v := t20) (lv' := [(6, .int t20), (7, .int r18), (0, .ref (ly 0)), (1, .int a1), (2, .int a2), (3, .int a3), (4, .int v4_33), (5, .int v5_33)]) hx hb dX11_let_94 hl (k := 7) rfl (by rw [et20]; rfl) (by decide) rfl (fun ls hl => ?_)
                refine lv_goto (tgt := 33) hx hb dX11_let_97 (by decide) ?_
                exact ih_33 v4_33 v5_33 t20 S17 _ _ ls hw hH (lv_sub hl [2, 3, 4, 5, 6, 7, 0] rfl)
              · replace hw := hw.2 hc19
                refine lv_iload hx hb dX11_let_86 (lv_at hl 0 rfl) ?_
                refine lv_istore (lv' := [(5, .int r18), (7, .int r18), (0, .ref (ly 0)), (1, .int a1), (2, .int a2), (3, .int a3), (4, .int v4_33), (6, .int v6_33)]) hx hb dX11_let_88 hl (by decide) rfl (fun ls hl => ?_)
                refine lv_iload hx hb dX11_let_90 (lv_at hl 7 rfl) ?_
                refine lv_istore (lv' := [(4, .int v6_33), (5, .int r18), (7, .int r18), (0, .ref (ly 0)), (1, .int a1), (2, .int a2), (3, .int a3), (6, .int v6_33)]) hx hb dX11_let_92 hl (by decide) rfl (fun ls hl => ?_)
                obtain ⟨t21, et21⟩ : ∃ y : Int32, y = v6_33 + 1 := ⟨_, rfl⟩
                replace hw := hw t21 et21
                refine lv_iinc (v := t21) (lv' := [(6, .int t21), (4, .int v6_33), (5, .int r18), (7, .int r18), (0, .ref (ly 0)), (1, .int a1), (2, .int a2), (3, .int a3)]) hx hb dX11_let_94 hl (k := 7) rfl (by rw [et21]; rfl) (by decide) rfl (fun ls hl => ?_)
                refine lv_goto (tgt := 33) hx hb dX11_let_97 (by decide) ?_
                exact ih_33 v6_33 r18 t21 S17 _ _ ls hw hH (lv_sub hl [4, 5, 6, 7, 1, 2, 0] rfl)
        obtain ⟨m_33, hw⟩ := hw
        refine L_33 _ (fun e4_22 e5_23 e6_24 S25 H locs ls hw hH hl => ?_) m_33 (0 : Int32) (-1 : Int32) (0 : Int32) S7 _ _ ls hw hH (lv_sub hl [3, 4, 5, 6, 2, 1, 0] rfl)
        refine lv_iload hx hb dX11_let_100 (lv_at hl 4 rfl) ?_
        exact k_iret hx hb hr hlocks hK hN hH hw dX11_let_102
      · replace hw := hw.1 hc9
        refine lv_iconst (v := -1) hx hb dX11_let_22 (by decide +kernel) ?_
        exact k_iret hx hb hr hlocks hK hN hH hw dX11_let_23
def wp_X11_worthCut (a1 : Nat) (a2 : Int32) (a3 : Int32) (a4 : Int32) (S : St) (Q : Int32 → St → Prop) : Prop := (isPn a1 ∧ wp_X3_copyFrom 57 a1 S (fun S1 => (∀ S2 : St, S2 = sI S1 57 3 a2 → (∀ o3 : Nat, o3 = (gN S2 0 8) → isW o3 ∧ wp_X10_worthOf o3 57 a3 a4 S2 (fun r5 S4 => wp_X3_becomeBehind 57 a1 a2 S4 (fun S6 => (∀ o7 : Nat, o7 = (gN S6 0 8) → isW o7 ∧ wp_X10_worthOf o7 57 a3 a4 S6 (fun r9 S8 => Q (r5 + r9) S8))))))))
set_option maxHeartbeats 4000000 in
set_option maxRecDepth 100000 in
theorem c_X11_worthCut (l : Launch) (D : va_G) (kA : Nat → ClassId) (ly : Nat → Nat) (n : List Nat) (hn : ∀ c, c < 59 → c ∈ n) (A : Nat → Prop) (a1 : Nat) (a2 : Int32) (a3 : Int32) (a4 : Int32) : Ci l yX11_worthCut wsX11_worthCut 4 90 (Gp D (Ec kA ly) ly n A kA) A [.ref (ly 0), .ref (ly a1), .int a2, .int a3, .int a4] (wp_X11_worthCut a1 a2 a3 a4) := by
  intro S Q
  refine Met.ofW (cc := cX11_worthCut) (maxL := 6) (ret := (some .int)) (by decide) rfl ?_
  intro p e s m args below meth c s₁ B hml hv
  obtain ⟨rfl, ⟨hP, hD, hK, hN⟩, hw⟩ := hv
  have hx := B.exec
  have hb := B.bytes
  have hr := B.returns
  have hts := atoms_spec (ws := wsX11_worthCut) B.pre
  have hown : s.vm.findClass RX11 = some m.cls := findClass_of_methodNamed B.named
  have hlocks := B.notSynchronized
  have hH : Hp D (Ec kA ly) ly n A s.heap S s.heap [] := ⟨hP, hD, va_S.rf⟩
  have hiX11 : ∀ w ∈ u_ws RX11 TX11 12, w ∈ wsX11_worthCut := by decide +kernel
  have hiX3 : ∀ w ∈ u_ws RX3 TX3 5, w ∈ wsX11_worthCut := by decide +kernel
  have lk0 := hts (.fieldLink RX11 12 "SlowPanes" "trial" "LSlowPanes$Pane;") (by decide +kernel)
  have lk1 := hts (.fieldLink RX11 131 "SlowPanes$Pane" "count" "I") (by decide +kernel)
  have lk2 := hts (.fieldLink RX11 53 "SlowPanes" "world" "LSlowPanes$World;") (by decide +kernel)
  have hl := lv_entry ([.ref (ly 0), .ref (ly a1), .int a2, .int a3, .int a4]) (n := 6) (Nat.le_of_ble_eq_true rfl)
  rw [lg_entry_eq]
  generalize (lg_sl ([.ref (ly 0), .ref (ly a1), .int a2, .int a3, .int a4]) ++ List.replicate (6 - (lg_sl ([.ref (ly 0), .ref (ly a1), .int a2, .int a3, .int a4])).length) Slot.unset).toArray = ls at hl ⊢
  have hl : lv_has ls 6 [(0, .ref (ly 0)), (1, .ref (ly a1)), (2, .int a2), (3, .int a3), (4, .int a4)] := hl
  rw [wp_X11_worthCut] at hw
  obtain ⟨ha1, hw⟩ := hw
  refine lv_aload_n hx hb dX11_worthCut_0 rfl (lv_at hl 0 rfl) ?_
  refine gf_this_0 hx hb hts hiX11 hown hK hn hH lk0 dX11_worthCut_1 ?_
  refine lv_aload_n hx hb dX11_worthCut_4 rfl (lv_at hl 1 rfl) ?_
  refine k_aftv (va_runV (As := [.ref (ly a1)]) (rest := []) ⟨hx, hb, hml, hown, hts⟩ (c_X3_copyFrom l D kA ly n hn A 57 a1 S _) (cwV 1 hts gX11_worthCut_X3_copyFrom rfl rfl rfl (by decide +kernel) ⟨(Nat.le_of_ble_eq_true rfl), (Nat.le_of_ble_eq_true rfl)⟩) ⟨k_blind, (k_recv hK hH (pn_lt hn isPn57) (Ec_pn isPn57) rfl), k_pre hK hN hH hw⟩ rfl rfl hl.1 rfl (lv_room (Nat.le_of_ble_eq_true rfl)) dX11_worthCut_5 ⟨Nat.le_refl _, Nat.le_refl _⟩) hH (fun S1 H locs hw hH => ?_)
  refine lv_aload_n hx hb dX11_worthCut_8 rfl (lv_at hl 0 rfl) ?_
  refine gf_this_0 hx hb hts hiX11 hown hK hn hH lk0 dX11_worthCut_9 ?_
  refine lv_iload_n hx hb dX11_worthCut_12 rfl (lv_at hl 2 rfl) ?_
  refine pf_pn_3 hx hb hts hiX3 hown hK hn hH isPn57 lk1 dX11_worthCut_13 (fun S2 H locs eS2 hH => ?_)
  replace hw := hw S2 eS2
  refine lv_aload_n hx hb dX11_worthCut_16 rfl (lv_at hl 0 rfl) ?_
  refine gf_this_8 hx hb hts hiX11 hown hK hn hH lk2 dX11_worthCut_17 ?_
  obtain ⟨o3, eo3⟩ : ∃ y : Nat, y = (gN S2 0 8) := ⟨_, rfl⟩
  obtain ⟨ho3, hw⟩ := hw o3 eo3
  rw [← eo3]
  refine lv_aload_n hx hb dX11_worthCut_20 rfl (lv_at hl 0 rfl) ?_
  refine gf_this_0 hx hb hts hiX11 hown hK hn hH lk0 dX11_worthCut_21 ?_
  refine lv_iload_n hx hb dX11_worthCut_24 rfl (lv_at hl 3 rfl) ?_
  refine lv_iload hx hb dX11_worthCut_25 (lv_at hl 4 rfl) ?_
  refine k_afti (va_runV (As := [.ref (ly 57), .int a3, .int a4]) (rest := []) ⟨hx, hb, hml, hown, hts⟩ (c_X10_worthOf l D kA ly n hn A o3 57 a3 a4 S2 _) (cwV 3 hts gX11_worthCut_X10_worthOf rfl rfl rfl (by decide +kernel) ⟨(Nat.le_of_ble_eq_true rfl), (Nat.le_of_ble_eq_true rfl)⟩) ⟨k_blind, (k_recv hK hH (w_lt0 hn ho3) (Ec_w ho3) rfl), k_pre hK hN hH hw⟩ rfl rfl hl.1 rfl (lv_room (Nat.le_of_ble_eq_true rfl)) dX11_worthCut_27 ⟨Nat.le_refl _, Nat.le_refl _⟩) hH (fun r5 S4 H locs hw hH => ?_)
  refine lv_istore (lv' := [(5, .int r5), (0, .ref (ly 0)), (1, .ref (ly a1)), (2, .int a2), (3, .int a3), (4, .int a4)]) hx hb dX11_worthCut_30 hl (by decide) rfl (fun ls hl => ?_)
  refine lv_aload_n hx hb dX11_worthCut_32 rfl (lv_at hl 1 rfl) ?_
  refine gf_this_0 hx hb hts hiX11 hown hK hn hH lk0 dX11_worthCut_33 ?_
  refine lv_aload_n hx hb dX11_worthCut_36 rfl (lv_at hl 2 rfl) ?_
  refine lv_iload_n hx hb dX11_worthCut_37 rfl (lv_at hl 3 rfl) ?_
  refine k_aftv (va_runV (As := [.ref (ly a1), .int a2]) (rest := []) ⟨hx, hb, hml, hown, hts⟩ (c_X3_becomeBehind l D kA ly n hn A 57 a1 a2 S4 _) (cwV 2 hts gX11_worthCut_X3_becomeBehind rfl rfl rfl (by decide +kernel) ⟨(Nat.le_of_ble_eq_true rfl), (Nat.le_of_ble_eq_true rfl)⟩) ⟨k_blind, (k_recv hK hH (pn_lt hn isPn57) (Ec_pn isPn57) rfl), k_pre hK hN hH hw⟩ rfl rfl hl.1 rfl (lv_room (Nat.le_of_ble_eq_true rfl)) dX11_worthCut_38 ⟨Nat.le_refl _, Nat.le_refl _⟩) hH (fun S6 H locs hw hH => ?_)
  refine lv_iload hx hb dX11_worthCut_41 (lv_at hl 0 rfl) ?_
  refine lv_aload_n hx hb dX11_worthCut_43 rfl (lv_at hl 1 rfl) ?_
  refine gf_this_8 hx hb hts hiX11 hown hK hn hH lk2 dX11_worthCut_44 ?_
  obtain ⟨o7, eo7⟩ : ∃ y : Nat, y = (gN S6 0 8) := ⟨_, rfl⟩
  obtain ⟨ho7, hw⟩ := hw o7 eo7
  rw [← eo7]
  refine lv_aload_n hx hb dX11_worthCut_47 rfl (lv_at hl 1 rfl) ?_
  refine gf_this_0 hx hb hts hiX11 hown hK hn hH lk0 dX11_worthCut_48 ?_
  refine lv_iload_n hx hb dX11_worthCut_51 rfl (lv_at hl 4 rfl) ?_
  refine lv_iload hx hb dX11_worthCut_52 (lv_at hl 5 rfl) ?_
  refine k_afti (va_runV (As := [.ref (ly 57), .int a3, .int a4]) (rest := [.int r5]) ⟨hx, hb, hml, hown, hts⟩ (c_X10_worthOf l D kA ly n hn A o7 57 a3 a4 S6 _) (cwV 3 hts gX11_worthCut_X10_worthOf rfl rfl rfl (by decide +kernel) ⟨(Nat.le_of_ble_eq_true rfl), (Nat.le_of_ble_eq_true rfl)⟩) ⟨k_blind, (k_recv hK hH (w_lt0 hn ho7) (Ec_w ho7) rfl), k_pre hK hN hH hw⟩ rfl rfl hl.1 rfl (lv_room (Nat.le_of_ble_eq_true rfl)) dX11_worthCut_54 ⟨Nat.le_refl _, Nat.le_refl _⟩) hH (fun r9 S8 H locs hw hH => ?_)
  refine lv_iadd hx hb dX11_worthCut_57 ?_
  exact k_iret hx hb hr hlocks hK hN hH hw dX11_worthCut_58
def wl_X11_best_34 (a1 : Int32) (a2 : Int32) (a3 : Int32) (K_34 : Int32 → Int32 → Int32 → St → Prop) : Nat → Int32 → Int32 → Int32 → St → Prop
  | 0, _, _, _, _ => False
  | fu_34 + 1, v4_34, v5_34, v6_34, S_34 => (∀ o10 : Nat, o10 = (gN S_34 0 8) → isW o10 ∧ (vp_in a1 6 ∧ ∀ o12 : Nat, o12 = gN S_34 (o10 + 3) a1.toNatClampNeg → isPn o12 ∧ (((gI S_34 o12 3) ≤ v6_34 → K_34 v4_34 v5_34 v6_34 S_34) ∧ (¬ (gI S_34 o12 3) ≤ v6_34 → (vp_in a1 6 ∧ ∀ o15 : Nat, o15 = gN S_34 (o10 + 3) a1.toNatClampNeg → isPn o15 ∧ wp_X11_worthCut o15 v6_34 a2 a3 S_34 (fun r17 S16 => ((r17 ≤ v5_34 → (∀ t19 : Int32, t19 = v6_34 + 1 → wl_X11_best_34 a1 a2 a3 K_34 fu_34 v4_34 v5_34 t19 S16)) ∧ (¬ r17 ≤ v5_34 → (∀ t20 : Int32, t20 = v6_34 + 1 → wl_X11_best_34 a1 a2 a3 K_34 fu_34 v6_34 r17 t20 S16)))))))))
def wp_X11_best (a1 : Int32) (a2 : Int32) (a3 : Int32) (S : St) (Q : Int32 → St → Prop) : Prop := wp_X11_isPane a1 S (fun r2 S1 => ((r2 = 0 → Q (-1 : Int32) S1) ∧ (¬ r2 = 0 → wp_X11_isLooker a2 S1 (fun r5 S4 => ((r5 = 0 → Q (-1 : Int32) S4) ∧ (¬ r5 = 0 → wp_X11_isTrialLength a3 S4 (fun r8 S7 => ((r8 = 0 → Q (-1 : Int32) S7) ∧ (¬ r8 = 0 → (∃ m_34 : Nat, wl_X11_best_34 a1 a2 a3 (fun e4_21 e5_22 e6_23 S24 => Q e4_21 S24) m_34 (-3 : Int32) (-1 : Int32) (1 : Int32) S7))))))))))
set_option maxHeartbeats 4000000 in
set_option maxRecDepth 100000 in
theorem c_X11_best (l : Launch) (D : va_G) (kA : Nat → ClassId) (ly : Nat → Nat) (n : List Nat) (hn : ∀ c, c < 59 → c ∈ n) (A : Nat → Prop) (a1 : Int32) (a2 : Int32) (a3 : Int32) : Ci l yX11_best wsX11_best 5 115 (Gp D (Ec kA ly) ly n A kA) A [.ref (ly 0), .int a1, .int a2, .int a3] (wp_X11_best a1 a2 a3) := by
  intro S Q
  refine Met.ofW (cc := cX11_best) (maxL := 8) (ret := (some .int)) (by decide) rfl ?_
  intro p e s m args below meth c s₁ B hml hv
  obtain ⟨rfl, ⟨hP, hD, hK, hN⟩, hw⟩ := hv
  have hx := B.exec
  have hb := B.bytes
  have hr := B.returns
  have hts := atoms_spec (ws := wsX11_best) B.pre
  have hown : s.vm.findClass RX11 = some m.cls := findClass_of_methodNamed B.named
  have hlocks := B.notSynchronized
  have hH : Hp D (Ec kA ly) ly n A s.heap S s.heap [] := ⟨hP, hD, va_S.rf⟩
  have hiX11 : ∀ w ∈ u_ws RX11 TX11 12, w ∈ wsX11_best := by decide +kernel
  have hiX10 : ∀ w ∈ u_ws RX10 TX10 6, w ∈ wsX11_best := by decide +kernel
  have hiX3 : ∀ w ∈ u_ws RX3 TX3 5, w ∈ wsX11_best := by decide +kernel
  have lk0 := hts (.fieldLink RX11 53 "SlowPanes" "world" "LSlowPanes$World;") (by decide +kernel)
  have lk1 := hts (.fieldLink RX11 124 "SlowPanes$World" "panes" "[LSlowPanes$Pane;") (by decide +kernel)
  have lk2 := hts (.fieldLink RX11 131 "SlowPanes$Pane" "count" "I") (by decide +kernel)
  have hl := lv_entry ([.ref (ly 0), .int a1, .int a2, .int a3]) (n := 8) (Nat.le_of_ble_eq_true rfl)
  rw [lg_entry_eq]
  generalize (lg_sl ([.ref (ly 0), .int a1, .int a2, .int a3]) ++ List.replicate (8 - (lg_sl ([.ref (ly 0), .int a1, .int a2, .int a3])).length) Slot.unset).toArray = ls at hl ⊢
  have hl : lv_has ls 8 [(0, .ref (ly 0)), (1, .int a1), (2, .int a2), (3, .int a3)] := hl
  rw [wp_X11_best] at hw
  refine lv_aload_n hx hb dX11_best_0 rfl (lv_at hl 0 rfl) ?_
  refine lv_iload_n hx hb dX11_best_1 rfl (lv_at hl 1 rfl) ?_
  refine k_afti (va_runV (As := [.int a1]) (rest := []) ⟨hx, hb, hml, hown, hts⟩ (c_X11_isPane l D kA ly n hn A a1 S _) (cwV 1 hts gX11_best_X11_isPane rfl rfl rfl (by decide +kernel) ⟨(Nat.le_of_ble_eq_true rfl), (Nat.le_of_ble_eq_true rfl)⟩) ⟨k_blind, (k_recv hK hH (lt_n hn (by decide)) Ec_0 rfl), k_pre hK hN hH hw⟩ rfl rfl hl.1 rfl (lv_room (Nat.le_of_ble_eq_true rfl)) dX11_best_2 ⟨Nat.le_refl _, Nat.le_refl _⟩) hH (fun r2 S1 H locs hw hH => ?_)
  refine lv_if_eq (tgt := 22) hx hb dX11_best_5 (by decide) (fun hc3 => ?_) (fun hc3 => ?_)
  · replace hw := hw.1 hc3
    refine lv_iconst (v := -1) hx hb dX11_best_22 (by decide +kernel) ?_
    exact k_iret hx hb hr hlocks hK hN hH hw dX11_best_23
  · replace hw := hw.2 hc3
    refine lv_iload_n hx hb dX11_best_8 rfl (lv_at hl 2 rfl) ?_
    refine k_afti (va_runS (As := [.int a2]) (rest := []) ⟨hx, hb, hml, hown, hts⟩ (c_X11_isLooker l D kA ly n hn A a2 S1 _) (va_cwS 1 hts gX11_best_X11_isLooker rfl rfl rfl (by decide +kernel) ⟨(Nat.le_of_ble_eq_true rfl), (Nat.le_of_ble_eq_true rfl)⟩) ⟨k_blind, k_pre hK hN hH hw⟩ rfl rfl hl.1 rfl (lv_room (Nat.le_of_ble_eq_true rfl)) dX11_best_9 ⟨Nat.le_refl _, Nat.le_refl _⟩) hH (fun r5 S4 H locs hw hH => ?_)
    refine lv_if_eq (tgt := 22) hx hb dX11_best_12 (by decide) (fun hc6 => ?_) (fun hc6 => ?_)
    · replace hw := hw.1 hc6
      refine lv_iconst (v := -1) hx hb dX11_best_22 (by decide +kernel) ?_
      exact k_iret hx hb hr hlocks hK hN hH hw dX11_best_23
    · replace hw := hw.2 hc6
      refine lv_iload_n hx hb dX11_best_15 rfl (lv_at hl 3 rfl) ?_
      refine k_afti (va_runS (As := [.int a3]) (rest := []) ⟨hx, hb, hml, hown, hts⟩ (c_X11_isTrialLength l D kA ly n hn A a3 S4 _) (va_cwS 1 hts gX11_best_X11_isTrialLength rfl rfl rfl (by decide +kernel) ⟨(Nat.le_of_ble_eq_true rfl), (Nat.le_of_ble_eq_true rfl)⟩) ⟨k_blind, k_pre hK hN hH hw⟩ rfl rfl hl.1 rfl (lv_room (Nat.le_of_ble_eq_true rfl)) dX11_best_16 ⟨Nat.le_refl _, Nat.le_refl _⟩) hH (fun r8 S7 H locs hw hH => ?_)
      refine lv_if_ne (tgt := 24) hx hb dX11_best_19 (by decide) (fun hc9 => ?_) (fun hc9 => ?_)
      · replace hw := hw.2 hc9
        refine lv_bipush (v := -3) hx hb dX11_best_24 (by decide +kernel) ?_
        refine lv_istore (lv' := [(4, .int (-3 : Int32)), (0, .ref (ly 0)), (1, .int a1), (2, .int a2), (3, .int a3)]) hx hb dX11_best_26 hl (by decide) rfl (fun ls hl => ?_)
        refine lv_iconst (v := -1) hx hb dX11_best_28 (by decide +kernel) ?_
        refine lv_istore (lv' := [(5, .int (-1 : Int32)), (4, .int (-3 : Int32)), (0, .ref (ly 0)), (1, .int a1), (2, .int a2), (3, .int a3)]) hx hb dX11_best_29 hl (by decide) rfl (fun ls hl => ?_)
        refine lv_iconst (v := 1) hx hb dX11_best_31 (by decide +kernel) ?_
        refine lv_istore (lv' := [(6, .int (1 : Int32)), (5, .int (-1 : Int32)), (4, .int (-3 : Int32)), (0, .ref (ly 0)), (1, .int a1), (2, .int a2), (3, .int a3)]) hx hb dX11_best_32 hl (by decide) rfl (fun ls hl => ?_)
        have L_34 : ∀ (K_34 : Int32 → Int32 → Int32 → St → Prop) (hk_34 : ∀ (v4_34 : Int32) (v5_34 : Int32) (v6_34 : Int32) (S_34 : St) (H : Heap) (locs : List Loc) (ls : Array Slot), K_34 v4_34 v5_34 v6_34 S_34 → Hp D (Ec kA ly) ly n A s.heap S_34 H locs → lv_has ls 8 [(0, .ref (ly 0)), (1, .int a1), (2, .int a2), (3, .int a3), (4, .int v4_34), (5, .int v5_34), (6, .int v6_34)] → W p l e (headSpec wsX11_best { frames := 5, cells := 0, slots := 0, locals := 115 }).room s m [.ref (ly 0), .int a1, .int a2, .int a3].toArray below meth c H locs 0 0 (MQ below (va_Qi Q (Gp D (Ec kA ly) ly n A kA) A) [.ref (ly 0), .int a1, .int a2, .int a3].toArray s 0 0 A) (F0 m 91 ls [])) (fu_34 : Nat) (v4_34 : Int32) (v5_34 : Int32) (v6_34 : Int32) (S_34 : St) (H : Heap) (locs : List Loc) (ls : Array Slot), wl_X11_best_34 a1 a2 a3 K_34 fu_34 v4_34 v5_34 v6_34 S_34 → Hp D (Ec kA ly) ly n A s.heap S_34 H locs → lv_has ls 8 [(0, .ref (ly 0)), (1, .int a1), (2, .int a2), (3, .int a3), (4, .int v4_34), (5, .int v5_34), (6, .int v6_34)] → W p l e (headSpec wsX11_best { frames := 5, cells := 0, slots := 0, locals := 115 }).room s m [.ref (ly 0), .int a1, .int a2, .int a3].toArray below meth c H locs 0 0 (MQ below (va_Qi Q (Gp D (Ec kA ly) ly n A kA) A) [.ref (ly 0), .int a1, .int a2, .int a3].toArray s 0 0 A) (F0 m 34 ls []) := by
          intro K_34 hk_34 fu_34
          induction fu_34 with
          | zero => intro v4_34 v5_34 v6_34 S_34 H locs ls hw hH hl; rw [wl_X11_best_34] at hw; exact hw.elim
          | succ fu_34 ih_34 =>
            intro v4_34 v5_34 v6_34 S_34 H locs ls hw hH hl
            rw [wl_X11_best_34] at hw
            refine lv_iload hx hb dX11_best_34 (lv_at hl 6 rfl) ?_
            refine lv_aload_n hx hb dX11_best_36 rfl (lv_at hl 0 rfl) ?_
            refine gf_this_8 hx hb hts hiX11 hown hK hn hH lk0 dX11_best_37 ?_
            obtain ⟨o10, eo10⟩ : ∃ y : Nat, y = (gN S_34 0 8) := ⟨_, rfl⟩
            obtain ⟨ho10, hw⟩ := hw o10 eo10
            rw [← eo10]
            refine gf_w_2 hx hb hts hiX10 hown hK hn hH ho10 lk1 dX11_best_40 ?_
            refine lv_iload_n hx hb dX11_best_43 rfl (lv_at hl 1 rfl) ?_
            obtain ⟨hi_11, hw⟩ := hw
            obtain ⟨o12, eo12⟩ : ∃ y : Nat, y = gN S_34 (o10 + 3) a1.toNatClampNeg := ⟨_, rfl⟩
            obtain ⟨ho12, hw⟩ := hw o12 eo12
            refine k_ald (t0 := 1) (v := .ref (ly o12)) hx hb hK hH (w_lt hn ho10 3 (by decide)) rfl (Ec_wp ho10) hi_11 (by rw [eo12]; rfl) dX11_best_44 ?_
            refine gf_pn_3 hx hb hts hiX3 hown hK hn hH ho12 lk2 dX11_best_45 ?_
            refine lv_icmp_ge (tgt := 91) hx hb dX11_best_48 (by decide) (fun hc13 => ?_) (fun hc13 => ?_)
            · replace hw := hw.1 hc13
              exact hk_34 v4_34 v5_34 v6_34 S_34 _ _ ls hw hH (lv_sub hl [0, 1, 2, 3, 4, 5, 6] rfl)
            · replace hw := hw.2 hc13
              refine lv_aload_n hx hb dX11_best_51 rfl (lv_at hl 0 rfl) ?_
              refine lv_aload_n hx hb dX11_best_52 rfl (lv_at hl 0 rfl) ?_
              refine gf_this_8 hx hb hts hiX11 hown hK hn hH lk0 dX11_best_53 ?_
              rw [← eo10]
              refine gf_w_2 hx hb hts hiX10 hown hK hn hH ho10 lk1 dX11_best_56 ?_
              refine lv_iload_n hx hb dX11_best_59 rfl (lv_at hl 1 rfl) ?_
              obtain ⟨hi_14, hw⟩ := hw
              obtain ⟨o15, eo15⟩ : ∃ y : Nat, y = gN S_34 (o10 + 3) a1.toNatClampNeg := ⟨_, rfl⟩
              obtain ⟨ho15, hw⟩ := hw o15 eo15
              refine k_ald (t0 := 1) (v := .ref (ly o15)) hx hb hK hH (w_lt hn ho10 3 (by decide)) rfl (Ec_wp ho10) hi_14 (by rw [eo15]; rfl) dX11_best_60 ?_
              refine lv_iload hx hb dX11_best_61 (lv_at hl 6 rfl) ?_
              refine lv_iload_n hx hb dX11_best_63 rfl (lv_at hl 2 rfl) ?_
              refine lv_iload_n hx hb dX11_best_64 rfl (lv_at hl 3 rfl) ?_
              refine k_afti (va_runV (As := [.ref (ly o15), .int v6_34, .int a2, .int a3]) (rest := []) ⟨hx, hb, hml, hown, hts⟩ (c_X11_worthCut l D kA ly n hn A o15 v6_34 a2 a3 S_34 _) (cwV 4 hts gX11_best_X11_worthCut rfl rfl rfl (by decide +kernel) ⟨(Nat.le_of_ble_eq_true rfl), (Nat.le_of_ble_eq_true rfl)⟩) ⟨k_blind, (k_recv hK hH (lt_n hn (by decide)) Ec_0 rfl), k_pre hK hN hH hw⟩ rfl rfl hl.1 rfl (lv_room (Nat.le_of_ble_eq_true rfl)) dX11_best_65 ⟨Nat.le_refl _, Nat.le_refl _⟩) hH (fun r17 S16 H locs hw hH => ?_)
              refine lv_istore (lv' := [(7, .int r17), (0, .ref (ly 0)), (1, .int a1), (2, .int a2), (3, .int a3), (4, .int v4_34), (5, .int v5_34), (6, .int v6_34)]) hx hb dX11_best_68 hl (by decide) rfl (fun ls hl => ?_)
              refine lv_iload hx hb dX11_best_70 (lv_at hl 0 rfl) ?_
              refine lv_iload hx hb dX11_best_72 (lv_at hl 6 rfl) ?_
              refine lv_icmp_le (tgt := 85) hx hb dX11_best_74 (by decide) (fun hc18 => ?_) (fun hc18 => ?_)
              · replace hw := hw.1 hc18
                obtain ⟨t19, et19⟩ : ∃ y : Int32, y = v6_34 + 1 := ⟨_, rfl⟩
                replace hw := hw t19 et19
                refine lv_iinc (v := t19) (lv' := [(6, .int t19), (7, .int r17), (0, .ref (ly 0)), (1, .int a1), (2, .int a2), (3, .int a3), (4, .int v4_34), (5, .int v5_34)]) hx hb dX11_best_85 hl (k := 7) rfl (by rw [et19]; rfl) (by decide) rfl (fun ls hl => ?_)
                refine lv_goto (tgt := 34) hx hb dX11_best_88 (by decide) ?_
                exact ih_34 v4_34 v5_34 t19 S16 _ _ ls hw hH (lv_sub hl [2, 3, 4, 5, 6, 7, 0] rfl)
              · replace hw := hw.2 hc18
                refine lv_iload hx hb dX11_best_77 (lv_at hl 0 rfl) ?_
                refine lv_istore (lv' := [(5, .int r17), (7, .int r17), (0, .ref (ly 0)), (1, .int a1), (2, .int a2), (3, .int a3), (4, .int v4_34), (6, .int v6_34)]) hx hb dX11_best_79 hl (by decide) rfl (fun ls hl => ?_)
                refine lv_iload hx hb dX11_best_81 (lv_at hl 7 rfl) ?_
                refine lv_istore (lv' := [(4, .int v6_34), (5, .int r17), (7, .int r17), (0, .ref (ly 0)), (1, .int a1), (2, .int a2), (3, .int a3), (6, .int v6_34)]) hx hb dX11_best_83 hl (by decide) rfl (fun ls hl => ?_)
                obtain ⟨t20, et20⟩ : ∃ y : Int32, y = v6_34 + 1 := ⟨_, rfl⟩
                replace hw := hw t20 et20
                refine lv_iinc (v := t20) (lv' := [(6, .int t20), (4, .int v6_34), (5, .int r17), (7, .int r17), (0, .ref (ly 0)), (1, .int a1), (2, .int a2), (3, .int a3)]) hx hb dX11_best_85 hl (k := 7) rfl (by rw [et20]; rfl) (by decide) rfl (fun ls hl => ?_)
                refine lv_goto (tgt := 34) hx hb dX11_best_88 (by decide) ?_
                exact ih_34 v6_34 r17 t20 S16 _ _ ls hw hH (lv_sub hl [4, 5, 6, 7, 1, 2, 0] rfl)
        obtain ⟨m_34, hw⟩ := hw
        refine L_34 _ (fun e4_21 e5_22 e6_23 S24 H locs ls hw hH hl => ?_) m_34 (-3 : Int32) (-1 : Int32) (1 : Int32) S7 _ _ ls hw hH (lv_sub hl [3, 4, 5, 6, 2, 1, 0] rfl)
        refine lv_iload hx hb dX11_best_91 (lv_at hl 4 rfl) ?_
        exact k_iret hx hb hr hlocks hK hN hH hw dX11_best_93
      · replace hw := hw.1 hc9
        refine lv_iconst (v := -1) hx hb dX11_best_22 (by decide +kernel) ?_
        exact k_iret hx hb hr hlocks hK hN hH hw dX11_best_23
def wp_X11_turned (a1 : Int32) (a2 : Int32) (a3 : Int32) (S : St) (Q : Int32 → St → Prop) : Prop := wp_X11_isPane a1 S (fun r2 S1 => ((r2 = 0 → Q (-1 : Int32) S1) ∧ (¬ r2 = 0 → wp_X11_isLooker a2 S1 (fun r5 S4 => ((r5 = 0 → Q (-1 : Int32) S4) ∧ (¬ r5 = 0 → wp_X11_isTrialLength a3 S4 (fun r8 S7 => ((r8 = 0 → Q (-1 : Int32) S7) ∧ (¬ r8 = 0 → (∀ o10 : Nat, o10 = (gN S7 0 8) → isW o10 ∧ (vp_in a1 6 ∧ ∀ o12 : Nat, o12 = gN S7 (o10 + 3) a1.toNatClampNeg → isPn o12 ∧ wp_X3_copyFrom 57 o12 S7 (fun S13 => wp_X3_turnAbout 57 S13 (fun S14 => (∀ o15 : Nat, o15 = (gN S14 0 8) → isW o15 ∧ wp_X10_worthOf o15 57 a2 a3 S14 (fun r17 S16 => wp_X11_worthAsIs a1 a2 a3 S16 (fun r19 S18 => Q ((r17 - r19) + (100000 : Int32)) S18))))))))))))))))
set_option maxHeartbeats 4000000 in
set_option maxRecDepth 100000 in
theorem c_X11_turned (l : Launch) (D : va_G) (kA : Nat → ClassId) (ly : Nat → Nat) (n : List Nat) (hn : ∀ c, c < 59 → c ∈ n) (A : Nat → Prop) (a1 : Int32) (a2 : Int32) (a3 : Int32) : Ci l yX11_turned wsX11_turned 5 113 (Gp D (Ec kA ly) ly n A kA) A [.ref (ly 0), .int a1, .int a2, .int a3] (wp_X11_turned a1 a2 a3) := by
  intro S Q
  refine Met.ofW (cc := cX11_turned) (maxL := 5) (ret := (some .int)) (by decide) rfl ?_
  intro p e s m args below meth c s₁ B hml hv
  obtain ⟨rfl, ⟨hP, hD, hK, hN⟩, hw⟩ := hv
  have hx := B.exec
  have hb := B.bytes
  have hr := B.returns
  have hts := atoms_spec (ws := wsX11_turned) B.pre
  have hown : s.vm.findClass RX11 = some m.cls := findClass_of_methodNamed B.named
  have hlocks := B.notSynchronized
  have hH : Hp D (Ec kA ly) ly n A s.heap S s.heap [] := ⟨hP, hD, va_S.rf⟩
  have hiX11 : ∀ w ∈ u_ws RX11 TX11 12, w ∈ wsX11_turned := by decide +kernel
  have hiX10 : ∀ w ∈ u_ws RX10 TX10 6, w ∈ wsX11_turned := by decide +kernel
  have lk0 := hts (.fieldLink RX11 12 "SlowPanes" "trial" "LSlowPanes$Pane;") (by decide +kernel)
  have lk1 := hts (.fieldLink RX11 53 "SlowPanes" "world" "LSlowPanes$World;") (by decide +kernel)
  have lk2 := hts (.fieldLink RX11 124 "SlowPanes$World" "panes" "[LSlowPanes$Pane;") (by decide +kernel)
  have lk3 := hts (.constant RX11 200 (100000)) (by decide +kernel)
  have hl := lv_entry ([.ref (ly 0), .int a1, .int a2, .int a3]) (n := 5) (Nat.le_of_ble_eq_true rfl)
  rw [lg_entry_eq]
  generalize (lg_sl ([.ref (ly 0), .int a1, .int a2, .int a3]) ++ List.replicate (5 - (lg_sl ([.ref (ly 0), .int a1, .int a2, .int a3])).length) Slot.unset).toArray = ls at hl ⊢
  have hl : lv_has ls 5 [(0, .ref (ly 0)), (1, .int a1), (2, .int a2), (3, .int a3)] := hl
  rw [wp_X11_turned] at hw
  refine lv_aload_n hx hb dX11_turned_0 rfl (lv_at hl 0 rfl) ?_
  refine lv_iload_n hx hb dX11_turned_1 rfl (lv_at hl 1 rfl) ?_
  refine k_afti (va_runV (As := [.int a1]) (rest := []) ⟨hx, hb, hml, hown, hts⟩ (c_X11_isPane l D kA ly n hn A a1 S _) (cwV 1 hts gX11_turned_X11_isPane rfl rfl rfl (by decide +kernel) ⟨(Nat.le_of_ble_eq_true rfl), (Nat.le_of_ble_eq_true rfl)⟩) ⟨k_blind, (k_recv hK hH (lt_n hn (by decide)) Ec_0 rfl), k_pre hK hN hH hw⟩ rfl rfl hl.1 rfl (lv_room (Nat.le_of_ble_eq_true rfl)) dX11_turned_2 ⟨Nat.le_refl _, Nat.le_refl _⟩) hH (fun r2 S1 H locs hw hH => ?_)
  refine lv_if_eq (tgt := 22) hx hb dX11_turned_5 (by decide) (fun hc3 => ?_) (fun hc3 => ?_)
  · replace hw := hw.1 hc3
    refine lv_iconst (v := -1) hx hb dX11_turned_22 (by decide +kernel) ?_
    exact k_iret hx hb hr hlocks hK hN hH hw dX11_turned_23
  · replace hw := hw.2 hc3
    refine lv_iload_n hx hb dX11_turned_8 rfl (lv_at hl 2 rfl) ?_
    refine k_afti (va_runS (As := [.int a2]) (rest := []) ⟨hx, hb, hml, hown, hts⟩ (c_X11_isLooker l D kA ly n hn A a2 S1 _) (va_cwS 1 hts gX11_turned_X11_isLooker rfl rfl rfl (by decide +kernel) ⟨(Nat.le_of_ble_eq_true rfl), (Nat.le_of_ble_eq_true rfl)⟩) ⟨k_blind, k_pre hK hN hH hw⟩ rfl rfl hl.1 rfl (lv_room (Nat.le_of_ble_eq_true rfl)) dX11_turned_9 ⟨Nat.le_refl _, Nat.le_refl _⟩) hH (fun r5 S4 H locs hw hH => ?_)
    refine lv_if_eq (tgt := 22) hx hb dX11_turned_12 (by decide) (fun hc6 => ?_) (fun hc6 => ?_)
    · replace hw := hw.1 hc6
      refine lv_iconst (v := -1) hx hb dX11_turned_22 (by decide +kernel) ?_
      exact k_iret hx hb hr hlocks hK hN hH hw dX11_turned_23
    · replace hw := hw.2 hc6
      refine lv_iload_n hx hb dX11_turned_15 rfl (lv_at hl 3 rfl) ?_
      refine k_afti (va_runS (As := [.int a3]) (rest := []) ⟨hx, hb, hml, hown, hts⟩ (c_X11_isTrialLength l D kA ly n hn A a3 S4 _) (va_cwS 1 hts gX11_turned_X11_isTrialLength rfl rfl rfl (by decide +kernel) ⟨(Nat.le_of_ble_eq_true rfl), (Nat.le_of_ble_eq_true rfl)⟩) ⟨k_blind, k_pre hK hN hH hw⟩ rfl rfl hl.1 rfl (lv_room (Nat.le_of_ble_eq_true rfl)) dX11_turned_16 ⟨Nat.le_refl _, Nat.le_refl _⟩) hH (fun r8 S7 H locs hw hH => ?_)
      refine lv_if_ne (tgt := 24) hx hb dX11_turned_19 (by decide) (fun hc9 => ?_) (fun hc9 => ?_)
      · replace hw := hw.2 hc9
        refine lv_aload_n hx hb dX11_turned_24 rfl (lv_at hl 0 rfl) ?_
        refine gf_this_0 hx hb hts hiX11 hown hK hn hH lk0 dX11_turned_25 ?_
        refine lv_aload_n hx hb dX11_turned_28 rfl (lv_at hl 0 rfl) ?_
        refine gf_this_8 hx hb hts hiX11 hown hK hn hH lk1 dX11_turned_29 ?_
        obtain ⟨o10, eo10⟩ : ∃ y : Nat, y = (gN S7 0 8) := ⟨_, rfl⟩
        obtain ⟨ho10, hw⟩ := hw o10 eo10
        rw [← eo10]
        refine gf_w_2 hx hb hts hiX10 hown hK hn hH ho10 lk2 dX11_turned_32 ?_
        refine lv_iload_n hx hb dX11_turned_35 rfl (lv_at hl 1 rfl) ?_
        obtain ⟨hi_11, hw⟩ := hw
        obtain ⟨o12, eo12⟩ : ∃ y : Nat, y = gN S7 (o10 + 3) a1.toNatClampNeg := ⟨_, rfl⟩
        obtain ⟨ho12, hw⟩ := hw o12 eo12
        refine k_ald (t0 := 1) (v := .ref (ly o12)) hx hb hK hH (w_lt hn ho10 3 (by decide)) rfl (Ec_wp ho10) hi_11 (by rw [eo12]; rfl) dX11_turned_36 ?_
        refine k_aftv (va_runV (As := [.ref (ly o12)]) (rest := []) ⟨hx, hb, hml, hown, hts⟩ (c_X3_copyFrom l D kA ly n hn A 57 o12 S7 _) (cwV 1 hts gX11_turned_X3_copyFrom rfl rfl rfl (by decide +kernel) ⟨(Nat.le_of_ble_eq_true rfl), (Nat.le_of_ble_eq_true rfl)⟩) ⟨k_blind, (k_recv hK hH (pn_lt hn isPn57) (Ec_pn isPn57) rfl), k_pre hK hN hH hw⟩ rfl rfl hl.1 rfl (lv_room (Nat.le_of_ble_eq_true rfl)) dX11_turned_37 ⟨Nat.le_refl _, Nat.le_refl _⟩) hH (fun S13 H locs hw hH => ?_)
        refine lv_aload_n hx hb dX11_turned_40 rfl (lv_at hl 0 rfl) ?_
        refine gf_this_0 hx hb hts hiX11 hown hK hn hH lk0 dX11_turned_41 ?_
        refine k_aftv (va_runV (As := []) (rest := []) ⟨hx, hb, hml, hown, hts⟩ (c_X3_turnAbout l D kA ly n hn A 57 S13 _) (cwV 0 hts gX11_turned_X3_turnAbout rfl rfl rfl (by decide +kernel) ⟨(Nat.le_of_ble_eq_true rfl), (Nat.le_of_ble_eq_true rfl)⟩) ⟨k_blind, (k_recv hK hH (pn_lt hn isPn57) (Ec_pn isPn57) rfl), k_pre hK hN hH hw⟩ rfl rfl hl.1 rfl (lv_room (Nat.le_of_ble_eq_true rfl)) dX11_turned_44 ⟨Nat.le_refl _, Nat.le_refl _⟩) hH (fun S14 H locs hw hH => ?_)
        refine lv_aload_n hx hb dX11_turned_47 rfl (lv_at hl 0 rfl) ?_
        refine gf_this_8 hx hb hts hiX11 hown hK hn hH lk1 dX11_turned_48 ?_
        obtain ⟨o15, eo15⟩ : ∃ y : Nat, y = (gN S14 0 8) := ⟨_, rfl⟩
        obtain ⟨ho15, hw⟩ := hw o15 eo15
        rw [← eo15]
        refine lv_aload_n hx hb dX11_turned_51 rfl (lv_at hl 0 rfl) ?_
        refine gf_this_0 hx hb hts hiX11 hown hK hn hH lk0 dX11_turned_52 ?_
        refine lv_iload_n hx hb dX11_turned_55 rfl (lv_at hl 2 rfl) ?_
        refine lv_iload_n hx hb dX11_turned_56 rfl (lv_at hl 3 rfl) ?_
        refine k_afti (va_runV (As := [.ref (ly 57), .int a2, .int a3]) (rest := []) ⟨hx, hb, hml, hown, hts⟩ (c_X10_worthOf l D kA ly n hn A o15 57 a2 a3 S14 _) (cwV 3 hts gX11_turned_X10_worthOf rfl rfl rfl (by decide +kernel) ⟨(Nat.le_of_ble_eq_true rfl), (Nat.le_of_ble_eq_true rfl)⟩) ⟨k_blind, (k_recv hK hH (w_lt0 hn ho15) (Ec_w ho15) rfl), k_pre hK hN hH hw⟩ rfl rfl hl.1 rfl (lv_room (Nat.le_of_ble_eq_true rfl)) dX11_turned_57 ⟨Nat.le_refl _, Nat.le_refl _⟩) hH (fun r17 S16 H locs hw hH => ?_)
        refine lv_istore (lv' := [(4, .int r17), (0, .ref (ly 0)), (1, .int a1), (2, .int a2), (3, .int a3)]) hx hb dX11_turned_60 hl (by decide) rfl (fun ls hl => ?_)
        refine lv_iload hx hb dX11_turned_62 (lv_at hl 0 rfl) ?_
        refine lv_aload_n hx hb dX11_turned_64 rfl (lv_at hl 1 rfl) ?_
        refine lv_iload_n hx hb dX11_turned_65 rfl (lv_at hl 2 rfl) ?_
        refine lv_iload_n hx hb dX11_turned_66 rfl (lv_at hl 3 rfl) ?_
        refine lv_iload_n hx hb dX11_turned_67 rfl (lv_at hl 4 rfl) ?_
        refine k_afti (va_runV (As := [.int a1, .int a2, .int a3]) (rest := [.int r17]) ⟨hx, hb, hml, hown, hts⟩ (c_X11_worthAsIs l D kA ly n hn A a1 a2 a3 S16 _) (cwV 3 hts gX11_turned_X11_worthAsIs rfl rfl rfl (by decide +kernel) ⟨(Nat.le_of_ble_eq_true rfl), (Nat.le_of_ble_eq_true rfl)⟩) ⟨k_blind, (k_recv hK hH (lt_n hn (by decide)) Ec_0 rfl), k_pre hK hN hH hw⟩ rfl rfl hl.1 rfl (lv_room (Nat.le_of_ble_eq_true rfl)) dX11_turned_68 ⟨Nat.le_refl _, Nat.le_refl _⟩) hH (fun r19 S18 H locs hw hH => ?_)
        refine lv_isub hx hb dX11_turned_71 ?_
        refine lv_ldc (v := 100000) hx hb hown lk3 dX11_turned_72 ?_
        refine lv_iadd hx hb dX11_turned_74 ?_
        exact k_iret hx hb hr hlocks hK hN hH hw dX11_turned_75
      · replace hw := hw.1 hc9
        refine lv_iconst (v := -1) hx hb dX11_turned_22 (by decide +kernel) ?_
        exact k_iret hx hb hr hlocks hK hN hH hw dX11_turned_23
def wl_X11_will_52 (a2 : Int32) (K_52 : Int32 → St → Prop) : Nat → Int32 → St → Prop
  | 0, _, _ => False
  | fu_52 + 1, v3_52, S_52 => ((a2 ≤ v3_52 → K_52 v3_52 S_52) ∧ (¬ a2 ≤ v3_52 → wp_X3_passDay 57 v3_52 S_52 (fun S15 => (∀ t16 : Int32, t16 = v3_52 + 1 → wl_X11_will_52 a2 K_52 fu_52 t16 S15))))
def wp_X11_will (a1 : Int32) (a2 : Int32) (S : St) (Q : Int32 → St → Prop) : Prop := wp_X11_isPane a1 S (fun r2 S1 => ((r2 = 0 → Q (-1 : Int32) S1) ∧ (¬ r2 = 0 → wp_X11_isDay a2 S1 (fun r5 S4 => ((r5 = 0 → Q (-1 : Int32) S4) ∧ (¬ r5 = 0 → (∀ o7 : Nat, o7 = (gN S4 0 8) → isW o7 ∧ (((gI S4 o7 4) ≤ a2 → (vp_in a1 6 ∧ ∀ o10 : Nat, o10 = gN S4 (o7 + 3) a1.toNatClampNeg → isPn o10 ∧ wp_X3_copyFrom 57 o10 S4 (fun S11 => (∀ o12 : Nat, o12 = (gN S11 0 8) → isW o12 ∧ (∀ t13 : Int32, t13 = (gI S11 o12 4) → (∃ m_52 : Nat, wl_X11_will_52 a2 (fun e3_17 S18 => (∀ o19 : Nat, o19 = (gN S18 0 8) → isW o19 ∧ wp_X10_shownBy o19 57 S18 (fun r21 S20 => Q r21 S20))) m_52 t13 S11)))))) ∧ (¬ (gI S4 o7 4) ≤ a2 → Q (-1 : Int32) S4)))))))))
set_option maxHeartbeats 4000000 in
set_option maxRecDepth 100000 in
theorem c_X11_will (l : Launch) (D : va_G) (kA : Nat → ClassId) (ly : Nat → Nat) (n : List Nat) (hn : ∀ c, c < 59 → c ∈ n) (A : Nat → Prop) (a1 : Int32) (a2 : Int32) : Ci l yX11_will wsX11_will 3 81 (Gp D (Ec kA ly) ly n A kA) A [.ref (ly 0), .int a1, .int a2] (wp_X11_will a1 a2) := by
  intro S Q
  refine Met.ofW (cc := cX11_will) (maxL := 4) (ret := (some .int)) (by decide) rfl ?_
  intro p e s m args below meth c s₁ B hml hv
  obtain ⟨rfl, ⟨hP, hD, hK, hN⟩, hw⟩ := hv
  have hx := B.exec
  have hb := B.bytes
  have hr := B.returns
  have hts := atoms_spec (ws := wsX11_will) B.pre
  have hown : s.vm.findClass RX11 = some m.cls := findClass_of_methodNamed B.named
  have hlocks := B.notSynchronized
  have hH : Hp D (Ec kA ly) ly n A s.heap S s.heap [] := ⟨hP, hD, va_S.rf⟩
  have hiX11 : ∀ w ∈ u_ws RX11 TX11 12, w ∈ wsX11_will := by decide +kernel
  have hiX10 : ∀ w ∈ u_ws RX10 TX10 6, w ∈ wsX11_will := by decide +kernel
  have lk0 := hts (.fieldLink RX11 53 "SlowPanes" "world" "LSlowPanes$World;") (by decide +kernel)
  have lk1 := hts (.fieldLink RX11 140 "SlowPanes$World" "today" "I") (by decide +kernel)
  have lk2 := hts (.fieldLink RX11 12 "SlowPanes" "trial" "LSlowPanes$Pane;") (by decide +kernel)
  have lk3 := hts (.fieldLink RX11 124 "SlowPanes$World" "panes" "[LSlowPanes$Pane;") (by decide +kernel)
  have hl := lv_entry ([.ref (ly 0), .int a1, .int a2]) (n := 4) (Nat.le_of_ble_eq_true rfl)
  rw [lg_entry_eq]
  generalize (lg_sl ([.ref (ly 0), .int a1, .int a2]) ++ List.replicate (4 - (lg_sl ([.ref (ly 0), .int a1, .int a2])).length) Slot.unset).toArray = ls at hl ⊢
  have hl : lv_has ls 4 [(0, .ref (ly 0)), (1, .int a1), (2, .int a2)] := hl
  rw [wp_X11_will] at hw
  refine lv_aload_n hx hb dX11_will_0 rfl (lv_at hl 0 rfl) ?_
  refine lv_iload_n hx hb dX11_will_1 rfl (lv_at hl 1 rfl) ?_
  refine k_afti (va_runV (As := [.int a1]) (rest := []) ⟨hx, hb, hml, hown, hts⟩ (c_X11_isPane l D kA ly n hn A a1 S _) (cwV 1 hts gX11_will_X11_isPane rfl rfl rfl (by decide +kernel) ⟨(Nat.le_of_ble_eq_true rfl), (Nat.le_of_ble_eq_true rfl)⟩) ⟨k_blind, (k_recv hK hH (lt_n hn (by decide)) Ec_0 rfl), k_pre hK hN hH hw⟩ rfl rfl hl.1 rfl (lv_room (Nat.le_of_ble_eq_true rfl)) dX11_will_2 ⟨Nat.le_refl _, Nat.le_refl _⟩) hH (fun r2 S1 H locs hw hH => ?_)
  refine lv_if_eq (tgt := 26) hx hb dX11_will_5 (by decide) (fun hc3 => ?_) (fun hc3 => ?_)
  · replace hw := hw.1 hc3
    refine lv_iconst (v := -1) hx hb dX11_will_26 (by decide +kernel) ?_
    exact k_iret hx hb hr hlocks hK hN hH hw dX11_will_27
  · replace hw := hw.2 hc3
    refine lv_iload_n hx hb dX11_will_8 rfl (lv_at hl 2 rfl) ?_
    refine k_afti (va_runS (As := [.int a2]) (rest := []) ⟨hx, hb, hml, hown, hts⟩ (c_X11_isDay l D kA ly n hn A a2 S1 _) (va_cwS 1 hts gX11_will_X11_isDay rfl rfl rfl (by decide +kernel) ⟨(Nat.le_of_ble_eq_true rfl), (Nat.le_of_ble_eq_true rfl)⟩) ⟨k_blind, k_pre hK hN hH hw⟩ rfl rfl hl.1 rfl (lv_room (Nat.le_of_ble_eq_true rfl)) dX11_will_9 ⟨Nat.le_refl _, Nat.le_refl _⟩) hH (fun r5 S4 H locs hw hH => ?_)
    refine lv_if_eq (tgt := 26) hx hb dX11_will_12 (by decide) (fun hc6 => ?_) (fun hc6 => ?_)
    · replace hw := hw.1 hc6
      refine lv_iconst (v := -1) hx hb dX11_will_26 (by decide +kernel) ?_
      exact k_iret hx hb hr hlocks hK hN hH hw dX11_will_27
    · replace hw := hw.2 hc6
      refine lv_iload_n hx hb dX11_will_15 rfl (lv_at hl 2 rfl) ?_
      refine lv_aload_n hx hb dX11_will_16 rfl (lv_at hl 0 rfl) ?_
      refine gf_this_8 hx hb hts hiX11 hown hK hn hH lk0 dX11_will_17 ?_
      obtain ⟨o7, eo7⟩ : ∃ y : Nat, y = (gN S4 0 8) := ⟨_, rfl⟩
      obtain ⟨ho7, hw⟩ := hw o7 eo7
      rw [← eo7]
      refine gf_w_4 hx hb hts hiX10 hown hK hn hH ho7 lk1 dX11_will_20 ?_
      refine lv_icmp_ge (tgt := 28) hx hb dX11_will_23 (by decide) (fun hc8 => ?_) (fun hc8 => ?_)
      · replace hw := hw.1 hc8
        refine lv_aload_n hx hb dX11_will_28 rfl (lv_at hl 0 rfl) ?_
        refine gf_this_0 hx hb hts hiX11 hown hK hn hH lk2 dX11_will_29 ?_
        refine lv_aload_n hx hb dX11_will_32 rfl (lv_at hl 0 rfl) ?_
        refine gf_this_8 hx hb hts hiX11 hown hK hn hH lk0 dX11_will_33 ?_
        rw [← eo7]
        refine gf_w_2 hx hb hts hiX10 hown hK hn hH ho7 lk3 dX11_will_36 ?_
        refine lv_iload_n hx hb dX11_will_39 rfl (lv_at hl 1 rfl) ?_
        obtain ⟨hi_9, hw⟩ := hw
        obtain ⟨o10, eo10⟩ : ∃ y : Nat, y = gN S4 (o7 + 3) a1.toNatClampNeg := ⟨_, rfl⟩
        obtain ⟨ho10, hw⟩ := hw o10 eo10
        refine k_ald (t0 := 1) (v := .ref (ly o10)) hx hb hK hH (w_lt hn ho7 3 (by decide)) rfl (Ec_wp ho7) hi_9 (by rw [eo10]; rfl) dX11_will_40 ?_
        refine k_aftv (va_runV (As := [.ref (ly o10)]) (rest := []) ⟨hx, hb, hml, hown, hts⟩ (c_X3_copyFrom l D kA ly n hn A 57 o10 S4 _) (cwV 1 hts gX11_will_X3_copyFrom rfl rfl rfl (by decide +kernel) ⟨(Nat.le_of_ble_eq_true rfl), (Nat.le_of_ble_eq_true rfl)⟩) ⟨k_blind, (k_recv hK hH (pn_lt hn isPn57) (Ec_pn isPn57) rfl), k_pre hK hN hH hw⟩ rfl rfl hl.1 rfl (lv_room (Nat.le_of_ble_eq_true rfl)) dX11_will_41 ⟨Nat.le_refl _, Nat.le_refl _⟩) hH (fun S11 H locs hw hH => ?_)
        refine lv_aload_n hx hb dX11_will_44 rfl (lv_at hl 0 rfl) ?_
        refine gf_this_8 hx hb hts hiX11 hown hK hn hH lk0 dX11_will_45 ?_
        obtain ⟨o12, eo12⟩ : ∃ y : Nat, y = (gN S11 0 8) := ⟨_, rfl⟩
        obtain ⟨ho12, hw⟩ := hw o12 eo12
        rw [← eo12]
        refine gf_w_4 hx hb hts hiX10 hown hK hn hH ho12 lk1 dX11_will_48 ?_
        refine lv_topi (fun t13 et13 => ?_)
        replace hw := hw t13 et13
        refine lv_istore_n (lv' := [(3, .int t13), (0, .ref (ly 0)), (1, .int a1), (2, .int a2)]) hx hb dX11_will_51 rfl hl (by decide) rfl (fun ls hl => ?_)
        have L_52 : ∀ (K_52 : Int32 → St → Prop) (hk_52 : ∀ (v3_52 : Int32) (S_52 : St) (H : Heap) (locs : List Loc) (ls : Array Slot), K_52 v3_52 S_52 → Hp D (Ec kA ly) ly n A s.heap S_52 H locs → lv_has ls 4 [(0, .ref (ly 0)), (1, .int a1), (2, .int a2), (3, .int v3_52)] → W p l e (headSpec wsX11_will { frames := 3, cells := 0, slots := 0, locals := 81 }).room s m [.ref (ly 0), .int a1, .int a2].toArray below meth c H locs 0 0 (MQ below (va_Qi Q (Gp D (Ec kA ly) ly n A kA) A) [.ref (ly 0), .int a1, .int a2].toArray s 0 0 A) (F0 m 71 ls [])) (fu_52 : Nat) (v3_52 : Int32) (S_52 : St) (H : Heap) (locs : List Loc) (ls : Array Slot), wl_X11_will_52 a2 K_52 fu_52 v3_52 S_52 → Hp D (Ec kA ly) ly n A s.heap S_52 H locs → lv_has ls 4 [(0, .ref (ly 0)), (1, .int a1), (2, .int a2), (3, .int v3_52)] → W p l e (headSpec wsX11_will { frames := 3, cells := 0, slots := 0, locals := 81 }).room s m [.ref (ly 0), .int a1, .int a2].toArray below meth c H locs 0 0 (MQ below (va_Qi Q (Gp D (Ec kA ly) ly n A kA) A) [.ref (ly 0), .int a1, .int a2].toArray s 0 0 A) (F0 m 52 ls []) := by
          intro K_52 hk_52 fu_52
          induction fu_52 with
          | zero => intro v3_52 S_52 H locs ls hw hH hl; rw [wl_X11_will_52] at hw; exact hw.elim
          | succ fu_52 ih_52 =>
            intro v3_52 S_52 H locs ls hw hH hl
            rw [wl_X11_will_52] at hw
            refine lv_iload_n hx hb dX11_will_52 rfl (lv_at hl 3 rfl) ?_
            refine lv_iload_n hx hb dX11_will_53 rfl (lv_at hl 2 rfl) ?_
            refine lv_icmp_ge (tgt := 71) hx hb dX11_will_54 (by decide) (fun hc14 => ?_) (fun hc14 => ?_)
            · replace hw := hw.1 hc14
              exact hk_52 v3_52 S_52 _ _ ls hw hH (lv_sub hl [0, 1, 2, 3] rfl)
            · replace hw := hw.2 hc14
              refine lv_aload_n hx hb dX11_will_57 rfl (lv_at hl 0 rfl) ?_
              refine gf_this_0 hx hb hts hiX11 hown hK hn hH lk2 dX11_will_58 ?_
              refine lv_iload_n hx hb dX11_will_61 rfl (lv_at hl 3 rfl) ?_
              refine k_aftv (va_runV (As := [.int v3_52]) (rest := []) ⟨hx, hb, hml, hown, hts⟩ (c_X3_passDay l D kA ly n hn A 57 v3_52 S_52 _) (cwV 1 hts gX11_will_X3_passDay rfl rfl rfl (by decide +kernel) ⟨(Nat.le_of_ble_eq_true rfl), (Nat.le_of_ble_eq_true rfl)⟩) ⟨k_blind, (k_recv hK hH (pn_lt hn isPn57) (Ec_pn isPn57) rfl), k_pre hK hN hH hw⟩ rfl rfl hl.1 rfl (lv_room (Nat.le_of_ble_eq_true rfl)) dX11_will_62 ⟨Nat.le_refl _, Nat.le_refl _⟩) hH (fun S15 H locs hw hH => ?_)
              obtain ⟨t16, et16⟩ : ∃ y : Int32, y = v3_52 + 1 := ⟨_, rfl⟩
              replace hw := hw t16 et16
              refine lv_iinc (v := t16) (lv' := [(3, .int t16), (0, .ref (ly 0)), (1, .int a1), (2, .int a2)]) hx hb dX11_will_65 hl (k := 3) rfl (by rw [et16]; rfl) (by decide) rfl (fun ls hl => ?_)
              refine lv_goto (tgt := 52) hx hb dX11_will_68 (by decide) ?_
              exact ih_52 t16 S15 _ _ ls hw hH (lv_sub hl [1, 2, 3, 0] rfl)
        obtain ⟨m_52, hw⟩ := hw
        refine L_52 _ (fun e3_17 S18 H locs ls hw hH hl => ?_) m_52 t13 S11 _ _ ls hw hH (lv_sub hl [1, 2, 3, 0] rfl)
        refine lv_aload_n hx hb dX11_will_71 rfl (lv_at hl 0 rfl) ?_
        refine gf_this_8 hx hb hts hiX11 hown hK hn hH lk0 dX11_will_72 ?_
        obtain ⟨o19, eo19⟩ : ∃ y : Nat, y = (gN S18 0 8) := ⟨_, rfl⟩
        obtain ⟨ho19, hw⟩ := hw o19 eo19
        rw [← eo19]
        refine lv_aload_n hx hb dX11_will_75 rfl (lv_at hl 0 rfl) ?_
        refine gf_this_0 hx hb hts hiX11 hown hK hn hH lk2 dX11_will_76 ?_
        refine k_afti (va_runV (As := [.ref (ly 57)]) (rest := []) ⟨hx, hb, hml, hown, hts⟩ (c_X10_shownBy l D kA ly n hn A o19 57 S18 _) (cwV 1 hts gX11_will_X10_shownBy rfl rfl rfl (by decide +kernel) ⟨(Nat.le_of_ble_eq_true rfl), (Nat.le_of_ble_eq_true rfl)⟩) ⟨k_blind, (k_recv hK hH (w_lt0 hn ho19) (Ec_w ho19) rfl), k_pre hK hN hH hw⟩ rfl rfl hl.1 rfl (lv_room (Nat.le_of_ble_eq_true rfl)) dX11_will_79 ⟨Nat.le_refl _, Nat.le_refl _⟩) hH (fun r21 S20 H locs hw hH => ?_)
        exact k_iret hx hb hr hlocks hK hN hH hw dX11_will_82
      · replace hw := hw.2 hc8
        refine lv_iconst (v := -1) hx hb dX11_will_26 (by decide +kernel) ?_
        exact k_iret hx hb hr hlocks hK hN hH hw dX11_will_27
def wp_X11_seed (a1 : Int32) (S : St) (Q : Int32 → St → Prop) : Prop := (∀ o1 : Nat, o1 = (gN S 0 8) → isW o1 ∧ (∀ t2 : Int32, t2 = (gI S o1 5) → (∀ S3 : St, S3 = sI S o1 5 a1 → Q t2 S3)))
set_option maxHeartbeats 4000000 in
set_option maxRecDepth 100000 in
theorem c_X11_seed (l : Launch) (D : va_G) (kA : Nat → ClassId) (ly : Nat → Nat) (n : List Nat) (hn : ∀ c, c < 59 → c ∈ n) (A : Nat → Prop) (a1 : Int32) : Ci l yX11_seed wsX11_seed 0 0 (Gp D (Ec kA ly) ly n A kA) A [.ref (ly 0), .int a1] (wp_X11_seed a1) := by
  intro S Q
  refine Met.ofW (cc := cX11_seed) (maxL := 3) (ret := (some .int)) (by decide) rfl ?_
  intro p e s m args below meth c s₁ B hml hv
  obtain ⟨rfl, ⟨hP, hD, hK, hN⟩, hw⟩ := hv
  have hx := B.exec
  have hb := B.bytes
  have hr := B.returns
  have hts := atoms_spec (ws := wsX11_seed) B.pre
  have hown : s.vm.findClass RX11 = some m.cls := findClass_of_methodNamed B.named
  have hlocks := B.notSynchronized
  have hH : Hp D (Ec kA ly) ly n A s.heap S s.heap [] := ⟨hP, hD, va_S.rf⟩
  have hiX11 : ∀ w ∈ u_ws RX11 TX11 12, w ∈ wsX11_seed := by decide +kernel
  have hiX10 : ∀ w ∈ u_ws RX10 TX10 6, w ∈ wsX11_seed := by decide +kernel
  have lk0 := hts (.fieldLink RX11 53 "SlowPanes" "world" "LSlowPanes$World;") (by decide +kernel)
  have lk1 := hts (.fieldLink RX11 77 "SlowPanes$World" "z" "I") (by decide +kernel)
  have hl := lv_entry ([.ref (ly 0), .int a1]) (n := 3) (Nat.le_of_ble_eq_true rfl)
  rw [lg_entry_eq]
  generalize (lg_sl ([.ref (ly 0), .int a1]) ++ List.replicate (3 - (lg_sl ([.ref (ly 0), .int a1])).length) Slot.unset).toArray = ls at hl ⊢
  have hl : lv_has ls 3 [(0, .ref (ly 0)), (1, .int a1)] := hl
  rw [wp_X11_seed] at hw
  refine lv_aload_n hx hb dX11_seed_0 rfl (lv_at hl 0 rfl) ?_
  refine gf_this_8 hx hb hts hiX11 hown hK hn hH lk0 dX11_seed_1 ?_
  obtain ⟨o1, eo1⟩ : ∃ y : Nat, y = (gN S 0 8) := ⟨_, rfl⟩
  obtain ⟨ho1, hw⟩ := hw o1 eo1
  rw [← eo1]
  refine gf_w_5 hx hb hts hiX10 hown hK hn hH ho1 lk1 dX11_seed_4 ?_
  refine lv_topi (fun t2 et2 => ?_)
  replace hw := hw t2 et2
  refine lv_istore_n (lv' := [(2, .int t2), (0, .ref (ly 0)), (1, .int a1)]) hx hb dX11_seed_7 rfl hl (by decide) rfl (fun ls hl => ?_)
  refine lv_aload_n hx hb dX11_seed_8 rfl (lv_at hl 1 rfl) ?_
  refine gf_this_8 hx hb hts hiX11 hown hK hn hH lk0 dX11_seed_9 ?_
  rw [← eo1]
  refine lv_iload_n hx hb dX11_seed_12 rfl (lv_at hl 2 rfl) ?_
  refine pf_w_5 hx hb hts hiX10 hown hK hn hH ho1 lk1 dX11_seed_13 (fun S3 H locs eS3 hH => ?_)
  replace hw := hw S3 eS3
  refine lv_iload_n hx hb dX11_seed_16 rfl (lv_at hl 0 rfl) ?_
  exact k_iret hx hb hr hlocks hK hN hH hw dX11_seed_17
def wp_X11_draw (a1 : Int32) (a2 : Int32) (S : St) (Q : Int32 → St → Prop) : Prop := wp_X11_isPlace a1 S (fun r2 S1 => ((r2 = 0 → Q (-1 : Int32) S1) ∧ (¬ r2 = 0 → wp_X11_isDay a2 S1 (fun r5 S4 => ((r5 = 0 → Q (-1 : Int32) S4) ∧ (¬ r5 = 0 → (∀ o7 : Nat, o7 = (gN S4 0 8) → isW o7 ∧ (∀ S8 : St, S8 = sI S4 o7 5 (((gI S4 o7 5) * (1103515245 : Int32)) + (12345 : Int32)) → (∀ o9 : Nat, o9 = (gN S8 0 8) → isW o9 ∧ (∀ t10 : Int32, t10 = ((((gI S8 o9 5).toUInt32 >>> ((16 : Int32).toUInt32 &&& Int32.toUInt32 31)).toInt32) - (((gI S8 o9 5).toUInt32 >>> ((16 : Int32).toUInt32 &&& Int32.toUInt32 31)).toInt32) / (100 : Int32) * (100 : Int32)) → wp_X11_viewSlot a1 a2 S8 (fun r12 S11 => (vp_in r12 200 ∧ ∀ S14 : St, S14 = sA S11 (o9 + 1) r12.toNatClampNeg t10 → Q t10 S14))))))))))))
set_option maxHeartbeats 4000000 in
set_option maxRecDepth 100000 in
theorem c_X11_draw (l : Launch) (D : va_G) (kA : Nat → ClassId) (ly : Nat → Nat) (n : List Nat) (hn : ∀ c, c < 59 → c ∈ n) (A : Nat → Prop) (a1 : Int32) (a2 : Int32) : Ci l yX11_draw wsX11_draw 1 21 (Gp D (Ec kA ly) ly n A kA) A [.ref (ly 0), .int a1, .int a2] (wp_X11_draw a1 a2) := by
  intro S Q
  refine Met.ofW (cc := cX11_draw) (maxL := 4) (ret := (some .int)) (by decide) rfl ?_
  intro p e s m args below meth c s₁ B hml hv
  obtain ⟨rfl, ⟨hP, hD, hK, hN⟩, hw⟩ := hv
  have hx := B.exec
  have hb := B.bytes
  have hr := B.returns
  have hts := atoms_spec (ws := wsX11_draw) B.pre
  have hown : s.vm.findClass RX11 = some m.cls := findClass_of_methodNamed B.named
  have hlocks := B.notSynchronized
  have hH : Hp D (Ec kA ly) ly n A s.heap S s.heap [] := ⟨hP, hD, va_S.rf⟩
  have hiX11 : ∀ w ∈ u_ws RX11 TX11 12, w ∈ wsX11_draw := by decide +kernel
  have hiX10 : ∀ w ∈ u_ws RX10 TX10 6, w ∈ wsX11_draw := by decide +kernel
  have lk0 := hts (.fieldLink RX11 53 "SlowPanes" "world" "LSlowPanes$World;") (by decide +kernel)
  have lk1 := hts (.fieldLink RX11 77 "SlowPanes$World" "z" "I") (by decide +kernel)
  have lk2 := hts (.constant RX11 201 (1103515245)) (by decide +kernel)
  have lk3 := hts (.fieldLink RX11 98 "SlowPanes$World" "views" "[I") (by decide +kernel)
  have hl := lv_entry ([.ref (ly 0), .int a1, .int a2]) (n := 4) (Nat.le_of_ble_eq_true rfl)
  rw [lg_entry_eq]
  generalize (lg_sl ([.ref (ly 0), .int a1, .int a2]) ++ List.replicate (4 - (lg_sl ([.ref (ly 0), .int a1, .int a2])).length) Slot.unset).toArray = ls at hl ⊢
  have hl : lv_has ls 4 [(0, .ref (ly 0)), (1, .int a1), (2, .int a2)] := hl
  rw [wp_X11_draw] at hw
  refine lv_iload_n hx hb dX11_draw_0 rfl (lv_at hl 1 rfl) ?_
  refine k_afti (va_runS (As := [.int a1]) (rest := []) ⟨hx, hb, hml, hown, hts⟩ (c_X11_isPlace l D kA ly n hn A a1 S _) (va_cwS 1 hts gX11_draw_X11_isPlace rfl rfl rfl (by decide +kernel) ⟨(Nat.le_of_ble_eq_true rfl), (Nat.le_of_ble_eq_true rfl)⟩) ⟨k_blind, k_pre hK hN hH hw⟩ rfl rfl hl.1 rfl (lv_room (Nat.le_of_ble_eq_true rfl)) dX11_draw_1 ⟨Nat.le_refl _, Nat.le_refl _⟩) hH (fun r2 S1 H locs hw hH => ?_)
  refine lv_if_eq (tgt := 14) hx hb dX11_draw_4 (by decide) (fun hc3 => ?_) (fun hc3 => ?_)
  · replace hw := hw.1 hc3
    refine lv_iconst (v := -1) hx hb dX11_draw_14 (by decide +kernel) ?_
    exact k_iret hx hb hr hlocks hK hN hH hw dX11_draw_15
  · replace hw := hw.2 hc3
    refine lv_iload_n hx hb dX11_draw_7 rfl (lv_at hl 2 rfl) ?_
    refine k_afti (va_runS (As := [.int a2]) (rest := []) ⟨hx, hb, hml, hown, hts⟩ (c_X11_isDay l D kA ly n hn A a2 S1 _) (va_cwS 1 hts gX11_draw_X11_isDay rfl rfl rfl (by decide +kernel) ⟨(Nat.le_of_ble_eq_true rfl), (Nat.le_of_ble_eq_true rfl)⟩) ⟨k_blind, k_pre hK hN hH hw⟩ rfl rfl hl.1 rfl (lv_room (Nat.le_of_ble_eq_true rfl)) dX11_draw_8 ⟨Nat.le_refl _, Nat.le_refl _⟩) hH (fun r5 S4 H locs hw hH => ?_)
    refine lv_if_ne (tgt := 16) hx hb dX11_draw_11 (by decide) (fun hc6 => ?_) (fun hc6 => ?_)
    · replace hw := hw.2 hc6
      refine lv_aload_n hx hb dX11_draw_16 rfl (lv_at hl 0 rfl) ?_
      refine gf_this_8 hx hb hts hiX11 hown hK hn hH lk0 dX11_draw_17 ?_
      obtain ⟨o7, eo7⟩ : ∃ y : Nat, y = (gN S4 0 8) := ⟨_, rfl⟩
      obtain ⟨ho7, hw⟩ := hw o7 eo7
      rw [← eo7]
      refine lv_aload_n hx hb dX11_draw_20 rfl (lv_at hl 0 rfl) ?_
      refine gf_this_8 hx hb hts hiX11 hown hK hn hH lk0 dX11_draw_21 ?_
      rw [← eo7]
      refine gf_w_5 hx hb hts hiX10 hown hK hn hH ho7 lk1 dX11_draw_24 ?_
      refine lv_ldc (v := 1103515245) hx hb hown lk2 dX11_draw_27 ?_
      refine lv_imul hx hb dX11_draw_29 ?_
      refine lv_sipush (v := 12345) hx hb dX11_draw_30 (by decide +kernel) ?_
      refine lv_iadd hx hb dX11_draw_33 ?_
      refine pf_w_5 hx hb hts hiX10 hown hK hn hH ho7 lk1 dX11_draw_34 (fun S8 H locs eS8 hH => ?_)
      replace hw := hw S8 eS8
      refine lv_aload_n hx hb dX11_draw_37 rfl (lv_at hl 0 rfl) ?_
      refine gf_this_8 hx hb hts hiX11 hown hK hn hH lk0 dX11_draw_38 ?_
      obtain ⟨o9, eo9⟩ : ∃ y : Nat, y = (gN S8 0 8) := ⟨_, rfl⟩
      obtain ⟨ho9, hw⟩ := hw o9 eo9
      rw [← eo9]
      refine gf_w_5 hx hb hts hiX10 hown hK hn hH ho9 lk1 dX11_draw_41 ?_
      refine lv_bipush (v := 16) hx hb dX11_draw_44 (by decide +kernel) ?_
      refine lv_iushr hx hb dX11_draw_46 rfl ?_
      refine lv_bipush (v := 100) hx hb dX11_draw_47 (by decide +kernel) ?_
      refine lv_irem hx hb dX11_draw_49 (by decide) ?_
      refine lv_topi (fun t10 et10 => ?_)
      replace hw := hw t10 et10
      refine lv_istore_n (lv' := [(3, .int t10), (0, .ref (ly 0)), (1, .int a1), (2, .int a2)]) hx hb dX11_draw_50 rfl hl (by decide) rfl (fun ls hl => ?_)
      refine lv_aload_n hx hb dX11_draw_51 rfl (lv_at hl 1 rfl) ?_
      refine gf_this_8 hx hb hts hiX11 hown hK hn hH lk0 dX11_draw_52 ?_
      rw [← eo9]
      refine gf_w_0 hx hb hts hiX10 hown hK hn hH ho9 lk3 dX11_draw_55 ?_
      refine lv_iload_n hx hb dX11_draw_58 rfl (lv_at hl 2 rfl) ?_
      refine lv_iload_n hx hb dX11_draw_59 rfl (lv_at hl 3 rfl) ?_
      refine k_afti (va_runS (As := [.int a1, .int a2]) (rest := [.ref (ly (o9 + 1))]) ⟨hx, hb, hml, hown, hts⟩ (c_X11_viewSlot l D kA ly n hn A a1 a2 S8 _) (va_cwS 2 hts gX11_draw_X11_viewSlot rfl rfl rfl (by decide +kernel) ⟨(Nat.le_of_ble_eq_true rfl), (Nat.le_of_ble_eq_true rfl)⟩) ⟨k_blind, k_pre hK hN hH hw⟩ rfl rfl hl.1 rfl (lv_room (Nat.le_of_ble_eq_true rfl)) dX11_draw_60 ⟨Nat.le_refl _, Nat.le_refl _⟩) hH (fun r12 S11 H locs hw hH => ?_)
      refine lv_iload_n hx hb dX11_draw_63 rfl (lv_at hl 0 rfl) ?_
      obtain ⟨hi_13, hw⟩ := hw
      refine k_ist hx hb hK hH (w_lt hn ho9 1 (by decide)) (fun _ => (Ec_wv ho9)) hi_13 dX11_draw_64 (fun S14 H locs eS14 hH => ?_)
      replace hw := hw S14 eS14
      refine lv_iload_n hx hb dX11_draw_65 rfl (lv_at hl 0 rfl) ?_
      exact k_iret hx hb hr hlocks hK hN hH hw dX11_draw_66
    · replace hw := hw.1 hc6
      refine lv_iconst (v := -1) hx hb dX11_draw_14 (by decide +kernel) ?_
      exact k_iret hx hb hr hlocks hK hN hH hw dX11_draw_15
def wp_X11_rowSlot (a0 : Int32) (a1 : Int32) (S : St) (Q : Int32 → St → Prop) : Prop := Q ((a0 * (3 : Int32)) + a1) S
set_option maxHeartbeats 4000000 in
set_option maxRecDepth 100000 in
theorem c_X11_rowSlot (l : Launch) (D : va_G) (kA : Nat → ClassId) (ly : Nat → Nat) (n : List Nat) (hn : ∀ c, c < 59 → c ∈ n) (A : Nat → Prop) (a0 : Int32) (a1 : Int32) : Ci l yX11_rowSlot wsX11_rowSlot 0 0 (Gp D (Ec kA ly) ly n A kA) A [.int a0, .int a1] (wp_X11_rowSlot a0 a1) := by
  intro S Q
  refine Met.ofW (cc := cX11_rowSlot) (maxL := 2) (ret := (some .int)) (by decide) rfl ?_
  intro p e s m args below meth c s₁ B hml hv
  obtain ⟨rfl, ⟨hP, hD, hK, hN⟩, hw⟩ := hv
  have hx := B.exec
  have hb := B.bytes
  have hr := B.returns
  have hts := atoms_spec (ws := wsX11_rowSlot) B.pre
  have hown : s.vm.findClass RX11 = some m.cls := findClass_of_methodNamed B.named
  have hlocks := B.notSynchronized
  have hH : Hp D (Ec kA ly) ly n A s.heap S s.heap [] := ⟨hP, hD, va_S.rf⟩
  have hl := lv_entry ([.int a0, .int a1]) (n := 2) (Nat.le_of_ble_eq_true rfl)
  rw [lg_entry_eq]
  generalize (lg_sl ([.int a0, .int a1]) ++ List.replicate (2 - (lg_sl ([.int a0, .int a1])).length) Slot.unset).toArray = ls at hl ⊢
  have hl : lv_has ls 2 [(0, .int a0), (1, .int a1)] := hl
  rw [wp_X11_rowSlot] at hw
  refine lv_iload_n hx hb dX11_rowSlot_0 rfl (lv_at hl 0 rfl) ?_
  refine lv_iconst (v := 3) hx hb dX11_rowSlot_1 (by decide +kernel) ?_
  refine lv_imul hx hb dX11_rowSlot_2 ?_
  refine lv_iload_n hx hb dX11_rowSlot_3 rfl (lv_at hl 1 rfl) ?_
  refine lv_iadd hx hb dX11_rowSlot_4 ?_
  exact k_iret hx hb hr hlocks hK hN hH hw dX11_rowSlot_5
def wp_X11_rowPart (a1 : Int32) (a2 : Int32) (S : St) (Q : Int32 → St → Prop) : Prop := ((a2 = 0 → Q a1 S) ∧ (¬ a2 = 0 → ((a2 = 1 → (∀ o3 : Nat, o3 = (gN S 0 8) → isW o3 ∧ wp_X10_shownBy o3 57 S (fun r5 S4 => Q r5 S4))) ∧ (¬ a2 = 1 → wp_X3_last 57 S (fun r7 S6 => Q r7 S6)))))
set_option maxHeartbeats 4000000 in
set_option maxRecDepth 100000 in
theorem c_X11_rowPart (l : Launch) (D : va_G) (kA : Nat → ClassId) (ly : Nat → Nat) (n : List Nat) (hn : ∀ c, c < 59 → c ∈ n) (A : Nat → Prop) (a1 : Int32) (a2 : Int32) : Ci l yX11_rowPart wsX11_rowPart 3 64 (Gp D (Ec kA ly) ly n A kA) A [.ref (ly 0), .int a1, .int a2] (wp_X11_rowPart a1 a2) := by
  intro S Q
  refine Met.ofW (cc := cX11_rowPart) (maxL := 3) (ret := (some .int)) (by decide) rfl ?_
  intro p e s m args below meth c s₁ B hml hv
  obtain ⟨rfl, ⟨hP, hD, hK, hN⟩, hw⟩ := hv
  have hx := B.exec
  have hb := B.bytes
  have hr := B.returns
  have hts := atoms_spec (ws := wsX11_rowPart) B.pre
  have hown : s.vm.findClass RX11 = some m.cls := findClass_of_methodNamed B.named
  have hlocks := B.notSynchronized
  have hH : Hp D (Ec kA ly) ly n A s.heap S s.heap [] := ⟨hP, hD, va_S.rf⟩
  have hiX11 : ∀ w ∈ u_ws RX11 TX11 12, w ∈ wsX11_rowPart := by decide +kernel
  have lk0 := hts (.fieldLink RX11 53 "SlowPanes" "world" "LSlowPanes$World;") (by decide +kernel)
  have lk1 := hts (.fieldLink RX11 12 "SlowPanes" "trial" "LSlowPanes$Pane;") (by decide +kernel)
  have hl := lv_entry ([.ref (ly 0), .int a1, .int a2]) (n := 3) (Nat.le_of_ble_eq_true rfl)
  rw [lg_entry_eq]
  generalize (lg_sl ([.ref (ly 0), .int a1, .int a2]) ++ List.replicate (3 - (lg_sl ([.ref (ly 0), .int a1, .int a2])).length) Slot.unset).toArray = ls at hl ⊢
  have hl : lv_has ls 3 [(0, .ref (ly 0)), (1, .int a1), (2, .int a2)] := hl
  rw [wp_X11_rowPart] at hw
  refine lv_iload_n hx hb dX11_rowPart_0 rfl (lv_at hl 2 rfl) ?_
  by_cases hc1 : a2 = 0
  · replace hw := hw.1 hc1
    refine lv_lookup (tgt := 28) hx hb dX11_rowPart_1 (by decide) (by rw [hc1]; first | done | rfl) (by decide) ?_
    refine lv_iload_n hx hb dX11_rowPart_28 rfl (lv_at hl 1 rfl) ?_
    exact k_iret hx hb hr hlocks hK hN hH hw dX11_rowPart_29
  · replace hw := hw.2 hc1
    by_cases hc2 : a2 = 1
    · replace hw := hw.1 hc2
      refine lv_lookup (tgt := 30) hx hb dX11_rowPart_1 (by decide) (by rw [hc2]; first | done | rfl) (by decide) ?_
      refine lv_aload_n hx hb dX11_rowPart_30 rfl (lv_at hl 0 rfl) ?_
      refine gf_this_8 hx hb hts hiX11 hown hK hn hH lk0 dX11_rowPart_31 ?_
      obtain ⟨o3, eo3⟩ : ∃ y : Nat, y = (gN S 0 8) := ⟨_, rfl⟩
      obtain ⟨ho3, hw⟩ := hw o3 eo3
      rw [← eo3]
      refine lv_aload_n hx hb dX11_rowPart_34 rfl (lv_at hl 0 rfl) ?_
      refine gf_this_0 hx hb hts hiX11 hown hK hn hH lk1 dX11_rowPart_35 ?_
      refine k_afti (va_runV (As := [.ref (ly 57)]) (rest := []) ⟨hx, hb, hml, hown, hts⟩ (c_X10_shownBy l D kA ly n hn A o3 57 S _) (cwV 1 hts gX11_rowPart_X10_shownBy rfl rfl rfl (by decide +kernel) ⟨(Nat.le_of_ble_eq_true rfl), (Nat.le_of_ble_eq_true rfl)⟩) ⟨k_blind, (k_recv hK hH (w_lt0 hn ho3) (Ec_w ho3) rfl), k_pre hK hN hH hw⟩ rfl rfl hl.1 rfl (lv_room (Nat.le_of_ble_eq_true rfl)) dX11_rowPart_38 ⟨Nat.le_refl _, Nat.le_refl _⟩) hH (fun r5 S4 H locs hw hH => ?_)
      exact k_iret hx hb hr hlocks hK hN hH hw dX11_rowPart_41
    · replace hw := hw.2 hc2
      refine lv_lookup (tgt := 42) hx hb dX11_rowPart_1 (by decide) (lk_out_0_1 hc1 hc2) (by decide) ?_
      refine lv_aload_n hx hb dX11_rowPart_42 rfl (lv_at hl 0 rfl) ?_
      refine gf_this_0 hx hb hts hiX11 hown hK hn hH lk1 dX11_rowPart_43 ?_
      refine k_afti (va_runV (As := []) (rest := []) ⟨hx, hb, hml, hown, hts⟩ (c_X3_last l D kA ly n hn A 57 S _) (cwV 0 hts gX11_rowPart_X3_last rfl rfl rfl (by decide +kernel) ⟨(Nat.le_of_ble_eq_true rfl), (Nat.le_of_ble_eq_true rfl)⟩) ⟨k_blind, (k_recv hK hH (pn_lt hn isPn57) (Ec_pn isPn57) rfl), k_pre hK hN hH hw⟩ rfl rfl hl.1 rfl (lv_room (Nat.le_of_ble_eq_true rfl)) dX11_rowPart_46 ⟨Nat.le_refl _, Nat.le_refl _⟩) hH (fun r7 S6 H locs hw hH => ?_)
      exact k_iret hx hb hr hlocks hK hN hH hw dX11_rowPart_49
