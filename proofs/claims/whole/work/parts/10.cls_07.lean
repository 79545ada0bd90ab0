def wl_X11_prove_75 (v3_53 : Int32) (t15 : Int32) (K_75 : Int32 → St → Prop) : Nat → Int32 → St → Prop
  | 0, _, _ => False
  | fu_75 + 1, v5_75, S_75 => (((3 : Int32) ≤ v5_75 → K_75 v5_75 S_75) ∧ (¬ (3 : Int32) ≤ v5_75 → wp_X11_rowSlot v3_53 v5_75 S_75 (fun r18 S17 => wp_X11_rowPart t15 v5_75 S17 (fun r20 S19 => (vp_in r18 60 ∧ ∀ S22 : St, S22 = sA S19 3 r18.toNatClampNeg r20 → (∀ t23 : Int32, t23 = v5_75 + 1 → wl_X11_prove_75 v3_53 t15 K_75 fu_75 t23 S22))))))
def wl_X11_prove_53  (K_53 : Int32 → St → Prop) : Nat → Int32 → St → Prop
  | 0, _, _ => False
  | fu_53 + 1, v3_53, S_53 => (((gI S_53 0 11) ≤ v3_53 → K_53 v3_53 S_53) ∧ (¬ (gI S_53 0 11) ≤ v3_53 → (∀ o14 : Nat, o14 = (gN S_53 0 8) → isW o14 ∧ (∀ t15 : Int32, t15 = ((gI S_53 o14 4) + v3_53) → (∃ m_75 : Nat, wl_X11_prove_75 v3_53 t15 (fun e5_24 S25 => wp_X3_passDay 57 t15 S25 (fun S26 => (∀ t27 : Int32, t27 = v3_53 + 1 → wl_X11_prove_53 K_53 fu_53 t27 S26))) m_75 (0 : Int32) S_53)))))
def wp_X11_prove (a1 : Int32) (a2 : Int32) (S : St) (Q : Int32 → St → Prop) : Prop := wp_X11_isPane a1 S (fun r2 S1 => ((r2 = 0 → Q (-1 : Int32) S1) ∧ (¬ r2 = 0 → wp_X11_isTrialLength a2 S1 (fun r5 S4 => ((r5 = 0 → Q (-1 : Int32) S4) ∧ (¬ r5 = 0 → (∀ o7 : Nat, o7 = (gN S4 0 8) → isW o7 ∧ (vp_in a1 6 ∧ ∀ o9 : Nat, o9 = gN S4 (o7 + 3) a1.toNatClampNeg → isPn o9 ∧ wp_X3_copyFrom 57 o9 S4 (fun S10 => (∀ o11 : Nat, o11 = (gN S10 0 8) → isW o11 ∧ (∀ S12 : St, S12 = sI S10 0 11 (if ((50 : Int32) - (gI S10 o11 4)) < a2 then ((50 : Int32) - (gI S10 o11 4)) else a2) → (∃ m_53 : Nat, wl_X11_prove_53 (fun e3_28 S29 => Q (gI S29 0 11) S29) m_53 (0 : Int32) S12))))))))))))
set_option maxHeartbeats 4000000 in
set_option maxRecDepth 100000 in
theorem c_X11_prove (l : Launch) (D : va_G) (kA : Nat → ClassId) (ly : Nat → Nat) (n : List Nat) (hn : ∀ c, c < 59 → c ∈ n) (A : Nat → Prop) (a1 : Int32) (a2 : Int32) : Ci l yX11_prove wsX11_prove 4 86 (Gp D (Ec kA ly) ly n A kA) A [.ref (ly 0), .int a1, .int a2] (wp_X11_prove a1 a2) := by
  intro S Q
  refine Met.ofW (cc := cX11_prove) (maxL := 6) (ret := (some .int)) (by decide) rfl ?_
  intro p e s m args below meth c s₁ B hml hv
  obtain ⟨rfl, ⟨hP, hD, hK, hN⟩, hw⟩ := hv
  have hx := B.exec
  have hb := B.bytes
  have hr := B.returns
  have hts := atoms_spec (ws := wsX11_prove) B.pre
  have hown : s.vm.findClass RX11 = some m.cls := findClass_of_methodNamed B.named
  have hlocks := B.notSynchronized
  have hH : Hp D (Ec kA ly) ly n A s.heap S s.heap [] := ⟨hP, hD, va_S.rf⟩
  have hiX11 : ∀ w ∈ u_ws RX11 TX11 12, w ∈ wsX11_prove := by decide +kernel
  have hiX10 : ∀ w ∈ u_ws RX10 TX10 6, w ∈ wsX11_prove := by decide +kernel
  have lk0 := hts (.fieldLink RX11 12 "SlowPanes" "trial" "LSlowPanes$Pane;") (by decide +kernel)
  have lk1 := hts (.fieldLink RX11 53 "SlowPanes" "world" "LSlowPanes$World;") (by decide +kernel)
  have lk2 := hts (.fieldLink RX11 124 "SlowPanes$World" "panes" "[LSlowPanes$Pane;") (by decide +kernel)
  have lk3 := hts (.fieldLink RX11 140 "SlowPanes$World" "today" "I") (by decide +kernel)
  have lk4 := hts (.methodLink RX11 202 Lib.Math.min.name) (by decide +kernel)
  have lk5 := hts (.static Lib.Math.min.name) (by decide +kernel)
  have lk6 := hts (.initialized "java/lang/Math") (by decide +kernel)
  have lk7 := hts (.code Lib.Math.min.name Lib.Math.min.code 2 (some .int)) (by decide +kernel)
  have lk8 := hts (.fieldLink RX11 63 "SlowPanes" "rowCount" "I") (by decide +kernel)
  have lk9 := hts (.fieldLink RX11 23 "SlowPanes" "rows" "[I") (by decide +kernel)
  have hl := lv_entry ([.ref (ly 0), .int a1, .int a2]) (n := 6) (Nat.le_of_ble_eq_true rfl)
  rw [lg_entry_eq]
  generalize (lg_sl ([.ref (ly 0), .int a1, .int a2]) ++ List.replicate (6 - (lg_sl ([.ref (ly 0), .int a1, .int a2])).length) Slot.unset).toArray = ls at hl ⊢
  have hl : lv_has ls 6 [(0, .ref (ly 0)), (1, .int a1), (2, .int a2)] := hl
  rw [wp_X11_prove] at hw
  refine lv_aload_n hx hb dX11_prove_0 rfl (lv_at hl 0 rfl) ?_
  refine lv_iload_n hx hb dX11_prove_1 rfl (lv_at hl 1 rfl) ?_
  refine k_afti (va_runV (As := [.int a1]) (rest := []) ⟨hx, hb, hml, hown, hts⟩ (c_X11_isPane l D kA ly n hn A a1 S _) (cwV 1 hts gX11_prove_X11_isPane rfl rfl rfl (by decide +kernel) ⟨(Nat.le_of_ble_eq_true rfl), (Nat.le_of_ble_eq_true rfl)⟩) ⟨k_blind, (k_recv hK hH (lt_n hn (by decide)) Ec_0 rfl), k_pre hK hN hH hw⟩ rfl rfl hl.1 rfl (lv_room (Nat.le_of_ble_eq_true rfl)) dX11_prove_2 ⟨Nat.le_refl _, Nat.le_refl _⟩) hH (fun r2 S1 H locs hw hH => ?_)
  refine lv_if_eq (tgt := 15) hx hb dX11_prove_5 (by decide) (fun hc3 => ?_) (fun hc3 => ?_)
  · replace hw := hw.1 hc3
    refine lv_iconst (v := -1) hx hb dX11_prove_15 (by decide +kernel) ?_
    exact k_iret hx hb hr hlocks hK hN hH hw dX11_prove_16
  · replace hw := hw.2 hc3
    refine lv_iload_n hx hb dX11_prove_8 rfl (lv_at hl 2 rfl) ?_
    refine k_afti (va_runS (As := [.int a2]) (rest := []) ⟨hx, hb, hml, hown, hts⟩ (c_X11_isTrialLength l D kA ly n hn A a2 S1 _) (va_cwS 1 hts gX11_prove_X11_isTrialLength rfl rfl rfl (by decide +kernel) ⟨(Nat.le_of_ble_eq_true rfl), (Nat.le_of_ble_eq_true rfl)⟩) ⟨k_blind, k_pre hK hN hH hw⟩ rfl rfl hl.1 rfl (lv_room (Nat.le_of_ble_eq_true rfl)) dX11_prove_9 ⟨Nat.le_refl _, Nat.le_refl _⟩) hH (fun r5 S4 H locs hw hH => ?_)
    refine lv_if_ne (tgt := 17) hx hb dX11_prove_12 (by decide) (fun hc6 => ?_) (fun hc6 => ?_)
    · replace hw := hw.2 hc6
      refine lv_aload_n hx hb dX11_prove_17 rfl (lv_at hl 0 rfl) ?_
      refine gf_this_0 hx hb hts hiX11 hown hK hn hH lk0 dX11_prove_18 ?_
      refine lv_aload_n hx hb dX11_prove_21 rfl (lv_at hl 0 rfl) ?_
      refine gf_this_8 hx hb hts hiX11 hown hK hn hH lk1 dX11_prove_22 ?_
      obtain ⟨o7, eo7⟩ : ∃ y : Nat, y = (gN S4 0 8) := ⟨_, rfl⟩
      obtain ⟨ho7, hw⟩ := hw o7 eo7
      rw [← eo7]
      refine gf_w_2 hx hb hts hiX10 hown hK hn hH ho7 lk2 dX11_prove_25 ?_
      refine lv_iload_n hx hb dX11_prove_28 rfl (lv_at hl 1 rfl) ?_
      obtain ⟨hi_8, hw⟩ := hw
      obtain ⟨o9, eo9⟩ : ∃ y : Nat, y = gN S4 (o7 + 3) a1.toNatClampNeg := ⟨_, rfl⟩
      obtain ⟨ho9, hw⟩ := hw o9 eo9
      refine k_ald (t0 := 1) (v := .ref (ly o9)) hx hb hK hH (w_lt hn ho7 3 (by decide)) rfl (Ec_wp ho7) hi_8 (by rw [eo9]; rfl) dX11_prove_29 ?_
      refine k_aftv (va_runV (As := [.ref (ly o9)]) (rest := []) ⟨hx, hb, hml, hown, hts⟩ (c_X3_copyFrom l D kA ly n hn A 57 o9 S4 _) (cwV 1 hts gX11_prove_X3_copyFrom rfl rfl rfl (by decide +kernel) ⟨(Nat.le_of_ble_eq_true rfl), (Nat.le_of_ble_eq_true rfl)⟩) ⟨k_blind, (k_recv hK hH (pn_lt hn isPn57) (Ec_pn isPn57) rfl), k_pre hK hN hH hw⟩ rfl rfl hl.1 rfl (lv_room (Nat.le_of_ble_eq_true rfl)) dX11_prove_30 ⟨Nat.le_refl _, Nat.le_refl _⟩) hH (fun S10 H locs hw hH => ?_)
      refine lv_aload_n hx hb dX11_prove_33 rfl (lv_at hl 0 rfl) ?_
      refine lv_iload_n hx hb dX11_prove_34 rfl (lv_at hl 2 rfl) ?_
      refine lv_bipush (v := 50) hx hb dX11_prove_35 (by decide +kernel) ?_
      refine lv_aload_n hx hb dX11_prove_37 rfl (lv_at hl 0 rfl) ?_
      refine gf_this_8 hx hb hts hiX11 hown hK hn hH lk1 dX11_prove_38 ?_
      obtain ⟨o11, eo11⟩ : ∃ y : Nat, y = (gN S10 0 8) := ⟨_, rfl⟩
      obtain ⟨ho11, hw⟩ := hw o11 eo11
      rw [← eo11]
      refine gf_w_4 hx hb hts hiX10 hown hK hn hH ho11 lk3 dX11_prove_41 ?_
      refine lv_isub hx hb dX11_prove_44 ?_
      refine va_mmin hx hb (hml.trans hl.1.symm) hown lk4 lk5 lk6 lk7 (Nat.le_of_ble_eq_true rfl) (Nat.le_of_ble_eq_true rfl) (Nat.le_refl _) (Nat.le_refl _) dX11_prove_45 ?_
      refine pf_this_11 hx hb hts hiX11 hown hK hn hH lk8 dX11_prove_48 (fun S12 H locs eS12 hH => ?_)
      replace hw := hw S12 eS12
      refine lv_iconst (v := 0) hx hb dX11_prove_51 (by decide +kernel) ?_
      refine lv_istore_n (lv' := [(3, .int (0 : Int32)), (0, .ref (ly 0)), (1, .int a1), (2, .int a2)]) hx hb dX11_prove_52 rfl hl (by decide) rfl (fun ls hl => ?_)
      have L_53 : ∀ (K_53 : Int32 → St → Prop) (hk_53 : ∀ (v3_53 : Int32) (S_53 : St) (H : Heap) (locs : List Loc) (ls : Array Slot), K_53 v3_53 S_53 → Hp D (Ec kA ly) ly n A s.heap S_53 H locs → lv_has ls 6 [(0, .ref (ly 0)), (1, .int a1), (2, .int a2), (3, .int v3_53)] → W p l e (headSpec wsX11_prove { frames := 4, cells := 0, slots := 0, locals := 86 }).room s m [.ref (ly 0), .int a1, .int a2].toArray below meth c H locs 0 0 (MQ below (va_Qi Q (Gp D (Ec kA ly) ly n A kA) A) [.ref (ly 0), .int a1, .int a2].toArray s 0 0 A) (F0 m 121 ls [])) (fu_53 : Nat) (v3_53 : Int32) (S_53 : St) (H : Heap) (locs : List Loc) (ls : Array Slot), wl_X11_prove_53 K_53 fu_53 v3_53 S_53 → Hp D (Ec kA ly) ly n A s.heap S_53 H locs → lv_has ls 6 [(0, .ref (ly 0)), (1, .int a1), (2, .int a2), (3, .int v3_53)] → W p l e (headSpec wsX11_prove { frames := 4, cells := 0, slots := 0, locals := 86 }).room s m [.ref (ly 0), .int a1, .int a2].toArray below meth c H locs 0 0 (MQ below (va_Qi Q (Gp D (Ec kA ly) ly n A kA) A) [.ref (ly 0), .int a1, .int a2].toArray s 0 0 A) (F0 m 53 ls []) := by
        intro K_53 hk_53 fu_53
        induction fu_53 with
        | zero => intro v3_53 S_53 H locs ls hw hH hl; rw [wl_X11_prove_53] at hw; exact hw.elim
        | succ fu_53 ih_53 =>
          intro v3_53 S_53 H locs ls hw hH hl
          rw [wl_X11_prove_53] at hw
          refine lv_iload_n hx hb dX11_prove_53 rfl (lv_at hl 3 rfl) ?_
          refine lv_aload_n hx hb dX11_prove_54 rfl (lv_at hl 0 rfl) ?_
          refine gf_this_11 hx hb hts hiX11 hown hK hn hH lk8 dX11_prove_55 ?_
          refine lv_icmp_ge (tgt := 121) hx hb dX11_prove_58 (by decide) (fun hc13 => ?_) (fun hc13 => ?_)
          · replace hw := hw.1 hc13
            exact hk_53 v3_53 S_53 _ _ ls hw hH (lv_sub hl [0, 1, 2, 3] rfl)
          · replace hw := hw.2 hc13
            refine lv_aload_n hx hb dX11_prove_61 rfl (lv_at hl 0 rfl) ?_
            refine gf_this_8 hx hb hts hiX11 hown hK hn hH lk1 dX11_prove_62 ?_
            obtain ⟨o14, eo14⟩ : ∃ y : Nat, y = (gN S_53 0 8) := ⟨_, rfl⟩
            obtain ⟨ho14, hw⟩ := hw o14 eo14
            rw [← eo14]
            refine gf_w_4 hx hb hts hiX10 hown hK hn hH ho14 lk3 dX11_prove_65 ?_
            refine lv_iload_n hx hb dX11_prove_68 rfl (lv_at hl 3 rfl) ?_
            refine lv_iadd hx hb dX11_prove_69 ?_
            refine lv_topi (fun t15 et15 => ?_)
            replace hw := hw t15 et15
            refine lv_istore (lv' := [(4, .int t15), (0, .ref (ly 0)), (1, .int a1), (2, .int a2), (3, .int v3_53)]) hx hb dX11_prove_70 hl (by decide) rfl (fun ls hl => ?_)
            refine lv_iconst (v := 0) hx hb dX11_prove_72 (by decide +kernel) ?_
            refine lv_istore (lv' := [(5, .int (0 : Int32)), (4, .int t15), (0, .ref (ly 0)), (1, .int a1), (2, .int a2), (3, .int v3_53)]) hx hb dX11_prove_73 hl (by decide) rfl (fun ls hl => ?_)
            have L_75 : ∀ (K_75 : Int32 → St → Prop) (hk_75 : ∀ (v5_75 : Int32) (S_75 : St) (H : Heap) (locs : List Loc) (ls : Array Slot), K_75 v5_75 S_75 → Hp D (Ec kA ly) ly n A s.heap S_75 H locs → lv_has ls 6 [(0, .ref (ly 0)), (1, .int a1), (2, .int a2), (3, .int v3_53), (4, .int t15), (5, .int v5_75)] → W p l e (headSpec wsX11_prove { frames := 4, cells := 0, slots := 0, locals := 86 }).room s m [.ref (ly 0), .int a1, .int a2].toArray below meth c H locs 0 0 (MQ below (va_Qi Q (Gp D (Ec kA ly) ly n A kA) A) [.ref (ly 0), .int a1, .int a2].toArray s 0 0 A) (F0 m 106 ls [])) (fu_75 : Nat) (v5_75 : Int32) (S_75 : St) (H : Heap) (locs : List Loc) (ls : Array Slot), wl_X11_prove_75 v3_53 t15 K_75 fu_75 v5_75 S_75 → Hp D (Ec kA ly) ly n A s.heap S_75 H locs → lv_has ls 6 [(0, .ref (ly 0)), (1, .int a1), (2, .int a2), (3, .int v3_53), (4, .int t15), (5, .int v5_75)] → W p l e (headSpec wsX11_prove { frames := 4, cells := 0, slots := 0, locals := 86 }).room s m [.ref (ly 0), .int a1, .int a2].toArray below meth c H locs 0 0 (MQ below (va_Qi Q (Gp D (Ec kA ly) ly n A kA) A) [.ref (ly 0), .int a1, .int a2].toArray s 0 0 A) (F0 m 75 ls []) := by
              intro K_75 hk_75 fu_75
              induction fu_75 with
              | zero => intro v5_75 S_75 H locs ls hw hH hl; rw [wl_X11_prove_75] at hw; exact hw.elim
              | succ fu_75 ih_75 =>
                intro v5_75 S_75 H locs ls hw hH hl
                rw [wl_X11_prove_75] at hw
                refine lv_iload hx hb dX11_prove_75 (lv_at hl 5 rfl) ?_
                refine lv_iconst (v := 3) hx hb dX11_prove_77 (by decide +kernel) ?_
                refine lv_icmp_ge (tgt := 106) hx hb dX11_prove_78 (by decide) (fun hc16 => ?_) (fun hc16 => ?_)
                · replace hw := hw.1 hc16
                  exact hk_75 v5_75 S_75 _ _ ls hw hH (lv_sub hl [0, 1, 2, 3, 4, 5] rfl)
                · replace hw := hw.2 hc16
                  refine lv_aload_n hx hb dX11_prove_81 rfl (lv_at hl 0 rfl) ?_
                  refine gf_this_2 hx hb hts hiX11 hown hK hn hH lk9 dX11_prove_82 ?_
                  refine lv_iload_n hx hb dX11_prove_85 rfl (lv_at hl 3 rfl) ?_
                  refine lv_iload hx hb dX11_prove_86 (lv_at hl 5 rfl) ?_
                  refine k_afti (va_runS (As := [.int v3_53, .int v5_75]) (rest := [.ref (ly 3)]) ⟨hx, hb, hml, hown, hts⟩ (c_X11_rowSlot l D kA ly n hn A v3_53 v5_75 S_75 _) (va_cwS 2 hts gX11_prove_X11_rowSlot rfl rfl rfl (by decide +kernel) ⟨(Nat.le_of_ble_eq_true rfl), (Nat.le_of_ble_eq_true rfl)⟩) ⟨k_blind, k_pre hK hN hH hw⟩ rfl rfl hl.1 rfl (lv_room (Nat.le_of_ble_eq_true rfl)) dX11_prove_88 ⟨Nat.le_refl _, Nat.le_refl _⟩) hH (fun r18 S17 H locs hw hH => ?_)
                  refine lv_aload_n hx hb dX11_prove_91 rfl (lv_at hl 0 rfl) ?_
                  refine lv_iload hx hb dX11_prove_92 (lv_at hl 4 rfl) ?_
                  refine lv_iload hx hb dX11_prove_94 (lv_at hl 5 rfl) ?_
                  refine k_afti (va_runV (As := [.int t15, .int v5_75]) (rest := [.int r18, .ref (ly 3)]) ⟨hx, hb, hml, hown, hts⟩ (c_X11_rowPart l D kA ly n hn A t15 v5_75 S17 _) (cwV 2 hts gX11_prove_X11_rowPart rfl rfl rfl (by decide +kernel) ⟨(Nat.le_of_ble_eq_true rfl), (Nat.le_of_ble_eq_true rfl)⟩) ⟨k_blind, (k_recv hK hH (lt_n hn (by decide)) Ec_0 rfl), k_pre hK hN hH hw⟩ rfl rfl hl.1 rfl (lv_room (Nat.le_of_ble_eq_true rfl)) dX11_prove_96 ⟨Nat.le_refl _, Nat.le_refl _⟩) hH (fun r20 S19 H locs hw hH => ?_)
                  obtain ⟨hi_21, hw⟩ := hw
                  refine k_ist hx hb hK hH (lt_n hn (by decide)) (fun _ => Ec_3) hi_21 dX11_prove_99 (fun S22 H locs eS22 hH => ?_)
                  replace hw := hw S22 eS22
                  obtain ⟨t23, et23⟩ : ∃ y : Int32, y = v5_75 + 1 := ⟨_, rfl⟩
                  replace hw := hw t23 et23
                  refine lv_iinc (v := t23) (lv' := [(5, .int t23), (0, .ref (ly 0)), (1, .int a1), (2, .int a2), (3, .int v3_53), (4, .int t15)]) hx hb dX11_prove_100 hl (k := 5) rfl (by rw [et23]; rfl) (by decide) rfl (fun ls hl => ?_)
                  refine lv_goto (tgt := 75) hx hb dX11_prove_103 (by decide) ?_
                  exact ih_75 t23 S22 _ _ ls hw hH (lv_sub hl [1, 2, 3, 4, 5, 0] rfl)
            obtain ⟨m_75, hw⟩ := hw
            refine L_75 _ (fun e5_24 S25 H locs ls hw hH hl => ?_) m_75 (0 : Int32) S_53 _ _ ls hw hH (lv_sub hl [2, 3, 4, 5, 1, 0] rfl)
            refine lv_aload_n hx hb dX11_prove_106 rfl (lv_at hl 0 rfl) ?_
            refine gf_this_0 hx hb hts hiX11 hown hK hn hH lk0 dX11_prove_107 ?_
            refine lv_iload hx hb dX11_prove_110 (lv_at hl 4 rfl) ?_
            refine k_aftv (va_runV (As := [.int t15]) (rest := []) ⟨hx, hb, hml, hown, hts⟩ (c_X3_passDay l D kA ly n hn A 57 t15 S25 _) (cwV 1 hts gX11_prove_X3_passDay rfl rfl rfl (by decide +kernel) ⟨(Nat.le_of_ble_eq_true rfl), (Nat.le_of_ble_eq_true rfl)⟩) ⟨k_blind, (k_recv hK hH (pn_lt hn isPn57) (Ec_pn isPn57) rfl), k_pre hK hN hH hw⟩ rfl rfl hl.1 rfl (lv_room (Nat.le_of_ble_eq_true rfl)) dX11_prove_112 ⟨Nat.le_refl _, Nat.le_refl _⟩) hH (fun S26 H locs hw hH => ?_)
            obtain ⟨t27, et27⟩ : ∃ y : Int32, y = v3_53 + 1 := ⟨_, rfl⟩
            replace hw := hw t27 et27
            refine lv_iinc (v := t27) (lv' := [(3, .int t27), (0, .ref (ly 0)), (1, .int a1), (2, .int a2), (4, .int t15), (5, .int e5_24)]) hx hb dX11_prove_115 hl (k := 3) rfl (by rw [et27]; rfl) (by decide) rfl (fun ls hl => ?_)
            refine lv_goto (tgt := 53) hx hb dX11_prove_118 (by decide) ?_
            exact ih_53 t27 S26 _ _ ls hw hH (lv_sub hl [1, 2, 3, 0] rfl)
      obtain ⟨m_53, hw⟩ := hw
      refine L_53 _ (fun e3_28 S29 H locs ls hw hH hl => ?_) m_53 (0 : Int32) S12 _ _ ls hw hH (lv_sub hl [1, 2, 3, 0] rfl)
      refine lv_aload_n hx hb dX11_prove_121 rfl (lv_at hl 0 rfl) ?_
      refine gf_this_11 hx hb hts hiX11 hown hK hn hH lk8 dX11_prove_122 ?_
      exact k_iret hx hb hr hlocks hK hN hH hw dX11_prove_125
    · replace hw := hw.1 hc6
      refine lv_iconst (v := -1) hx hb dX11_prove_15 (by decide +kernel) ?_
      exact k_iret hx hb hr hlocks hK hN hH hw dX11_prove_16
def wp_X11_isRowPart (a1 : Int32) (a2 : Int32) (S : St) (Q : Int32 → St → Prop) : Prop := ((a1 < 0 → Q (0 : Int32) S) ∧ (¬ a1 < 0 → (((gI S 0 11) ≤ a1 → Q (0 : Int32) S) ∧ (¬ (gI S 0 11) ≤ a1 → ((a2 < 0 → Q (0 : Int32) S) ∧ (¬ a2 < 0 → (((3 : Int32) ≤ a2 → Q (0 : Int32) S) ∧ (¬ (3 : Int32) ≤ a2 → Q (1 : Int32) S))))))))
set_option maxHeartbeats 4000000 in
set_option maxRecDepth 100000 in
theorem c_X11_isRowPart (l : Launch) (D : va_G) (kA : Nat → ClassId) (ly : Nat → Nat) (n : List Nat) (hn : ∀ c, c < 59 → c ∈ n) (A : Nat → Prop) (a1 : Int32) (a2 : Int32) : Ci l yX11_isRowPart wsX11_isRowPart 0 0 (Gp D (Ec kA ly) ly n A kA) A [.ref (ly 0), .int a1, .int a2] (wp_X11_isRowPart a1 a2) := by
  intro S Q
  refine Met.ofW (cc := cX11_isRowPart) (maxL := 3) (ret := (some .boolean)) (by decide) rfl ?_
  intro p e s m args below meth c s₁ B hml hv
  obtain ⟨rfl, ⟨hP, hD, hK, hN⟩, hw⟩ := hv
  have hx := B.exec
  have hb := B.bytes
  have hr := B.returns
  have hts := atoms_spec (ws := wsX11_isRowPart) B.pre
  have hown : s.vm.findClass RX11 = some m.cls := findClass_of_methodNamed B.named
  have hlocks := B.notSynchronized
  have hH : Hp D (Ec kA ly) ly n A s.heap S s.heap [] := ⟨hP, hD, va_S.rf⟩
  have hiX11 : ∀ w ∈ u_ws RX11 TX11 12, w ∈ wsX11_isRowPart := by decide +kernel
  have lk0 := hts (.fieldLink RX11 63 "SlowPanes" "rowCount" "I") (by decide +kernel)
  have hl := lv_entry ([.ref (ly 0), .int a1, .int a2]) (n := 3) (Nat.le_of_ble_eq_true rfl)
  rw [lg_entry_eq]
  generalize (lg_sl ([.ref (ly 0), .int a1, .int a2]) ++ List.replicate (3 - (lg_sl ([.ref (ly 0), .int a1, .int a2])).length) Slot.unset).toArray = ls at hl ⊢
  have hl : lv_has ls 3 [(0, .ref (ly 0)), (1, .int a1), (2, .int a2)] := hl
  rw [wp_X11_isRowPart] at hw
  refine lv_iload_n hx hb dX11_isRowPart_0 rfl (lv_at hl 1 rfl) ?_
  refine lv_if_lt (tgt := 25) hx hb dX11_isRowPart_1 (by decide) (fun hc1 => ?_) (fun hc1 => ?_)
  · replace hw := hw.1 hc1
    refine lv_iconst (v := 0) hx hb dX11_isRowPart_25 (by decide +kernel) ?_
    exact k_zret hx hb hr hlocks hK hN hH rfl hw dX11_isRowPart_26
  · replace hw := hw.2 hc1
    refine lv_iload_n hx hb dX11_isRowPart_4 rfl (lv_at hl 1 rfl) ?_
    refine lv_aload_n hx hb dX11_isRowPart_5 rfl (lv_at hl 0 rfl) ?_
    refine gf_this_11 hx hb hts hiX11 hown hK hn hH lk0 dX11_isRowPart_6 ?_
    refine lv_icmp_ge (tgt := 25) hx hb dX11_isRowPart_9 (by decide) (fun hc2 => ?_) (fun hc2 => ?_)
    · replace hw := hw.1 hc2
      refine lv_iconst (v := 0) hx hb dX11_isRowPart_25 (by decide +kernel) ?_
      exact k_zret hx hb hr hlocks hK hN hH rfl hw dX11_isRowPart_26
    · replace hw := hw.2 hc2
      refine lv_iload_n hx hb dX11_isRowPart_12 rfl (lv_at hl 2 rfl) ?_
      refine lv_if_lt (tgt := 25) hx hb dX11_isRowPart_13 (by decide) (fun hc3 => ?_) (fun hc3 => ?_)
      · replace hw := hw.1 hc3
        refine lv_iconst (v := 0) hx hb dX11_isRowPart_25 (by decide +kernel) ?_
        exact k_zret hx hb hr hlocks hK hN hH rfl hw dX11_isRowPart_26
      · replace hw := hw.2 hc3
        refine lv_iload_n hx hb dX11_isRowPart_16 rfl (lv_at hl 2 rfl) ?_
        refine lv_iconst (v := 3) hx hb dX11_isRowPart_17 (by decide +kernel) ?_
        refine lv_icmp_ge (tgt := 25) hx hb dX11_isRowPart_18 (by decide) (fun hc4 => ?_) (fun hc4 => ?_)
        · replace hw := hw.1 hc4
          refine lv_iconst (v := 0) hx hb dX11_isRowPart_25 (by decide +kernel) ?_
          exact k_zret hx hb hr hlocks hK hN hH rfl hw dX11_isRowPart_26
        · replace hw := hw.2 hc4
          refine lv_iconst (v := 1) hx hb dX11_isRowPart_21 (by decide +kernel) ?_
          refine lv_goto (tgt := 26) hx hb dX11_isRowPart_22 (by decide) ?_
          exact k_zret hx hb hr hlocks hK hN hH rfl hw dX11_isRowPart_26
def wp_X11_row (a1 : Int32) (a2 : Int32) (S : St) (Q : Int32 → St → Prop) : Prop := wp_X11_isRowPart a1 a2 S (fun r2 S1 => ((r2 = 0 → Q (-99 : Int32) S1) ∧ (¬ r2 = 0 → wp_X11_rowSlot a1 a2 S1 (fun r5 S4 => (vp_in r5 60 ∧ Q (gA S4 3 r5.toNatClampNeg) S4)))))
set_option maxHeartbeats 4000000 in
set_option maxRecDepth 100000 in
theorem c_X11_row (l : Launch) (D : va_G) (kA : Nat → ClassId) (ly : Nat → Nat) (n : List Nat) (hn : ∀ c, c < 59 → c ∈ n) (A : Nat → Prop) (a1 : Int32) (a2 : Int32) : Ci l yX11_row wsX11_row 1 22 (Gp D (Ec kA ly) ly n A kA) A [.ref (ly 0), .int a1, .int a2] (wp_X11_row a1 a2) := by
  intro S Q
  refine Met.ofW (cc := cX11_row) (maxL := 3) (ret := (some .int)) (by decide) rfl ?_
  intro p e s m args below meth c s₁ B hml hv
  obtain ⟨rfl, ⟨hP, hD, hK, hN⟩, hw⟩ := hv
  have hx := B.exec
  have hb := B.bytes
  have hr := B.returns
  have hts := atoms_spec (ws := wsX11_row) B.pre
  have hown : s.vm.findClass RX11 = some m.cls := findClass_of_methodNamed B.named
  have hlocks := B.notSynchronized
  have hH : Hp D (Ec kA ly) ly n A s.heap S s.heap [] := ⟨hP, hD, va_S.rf⟩
  have hiX11 : ∀ w ∈ u_ws RX11 TX11 12, w ∈ wsX11_row := by decide +kernel
  have lk0 := hts (.fieldLink RX11 23 "SlowPanes" "rows" "[I") (by decide +kernel)
  have hl := lv_entry ([.ref (ly 0), .int a1, .int a2]) (n := 3) (Nat.le_of_ble_eq_true rfl)
  rw [lg_entry_eq]
  generalize (lg_sl ([.ref (ly 0), .int a1, .int a2]) ++ List.replicate (3 - (lg_sl ([.ref (ly 0), .int a1, .int a2])).length) Slot.unset).toArray = ls at hl ⊢
  have hl : lv_has ls 3 [(0, .ref (ly 0)), (1, .int a1), (2, .int a2)] := hl
  rw [wp_X11_row] at hw
  refine lv_aload_n hx hb dX11_row_0 rfl (lv_at hl 0 rfl) ?_
  refine lv_iload_n hx hb dX11_row_1 rfl (lv_at hl 1 rfl) ?_
  refine lv_iload_n hx hb dX11_row_2 rfl (lv_at hl 2 rfl) ?_
  refine k_afti (va_runV (As := [.int a1, .int a2]) (rest := []) ⟨hx, hb, hml, hown, hts⟩ (c_X11_isRowPart l D kA ly n hn A a1 a2 S _) (cwV 2 hts gX11_row_X11_isRowPart rfl rfl rfl (by decide +kernel) ⟨(Nat.le_of_ble_eq_true rfl), (Nat.le_of_ble_eq_true rfl)⟩) ⟨k_blind, (k_recv hK hH (lt_n hn (by decide)) Ec_0 rfl), k_pre hK hN hH hw⟩ rfl rfl hl.1 rfl (lv_room (Nat.le_of_ble_eq_true rfl)) dX11_row_3 ⟨Nat.le_refl _, Nat.le_refl _⟩) hH (fun r2 S1 H locs hw hH => ?_)
  refine lv_if_ne (tgt := 12) hx hb dX11_row_6 (by decide) (fun hc3 => ?_) (fun hc3 => ?_)
  · replace hw := hw.2 hc3
    refine lv_aload_n hx hb dX11_row_12 rfl (lv_at hl 0 rfl) ?_
    refine gf_this_2 hx hb hts hiX11 hown hK hn hH lk0 dX11_row_13 ?_
    refine lv_iload_n hx hb dX11_row_16 rfl (lv_at hl 1 rfl) ?_
    refine lv_iload_n hx hb dX11_row_17 rfl (lv_at hl 2 rfl) ?_
    refine k_afti (va_runS (As := [.int a1, .int a2]) (rest := [.ref (ly 3)]) ⟨hx, hb, hml, hown, hts⟩ (c_X11_rowSlot l D kA ly n hn A a1 a2 S1 _) (va_cwS 2 hts gX11_row_X11_rowSlot rfl rfl rfl (by decide +kernel) ⟨(Nat.le_of_ble_eq_true rfl), (Nat.le_of_ble_eq_true rfl)⟩) ⟨k_blind, k_pre hK hN hH hw⟩ rfl rfl hl.1 rfl (lv_room (Nat.le_of_ble_eq_true rfl)) dX11_row_18 ⟨Nat.le_refl _, Nat.le_refl _⟩) hH (fun r5 S4 H locs hw hH => ?_)
    obtain ⟨hi_6, hw⟩ := hw
    refine k_ild hx hb hK hH (lt_n hn (by decide)) Ec_3 hi_6 dX11_row_21 ?_
    exact k_iret hx hb hr hlocks hK hN hH hw dX11_row_22
  · replace hw := hw.1 hc3
    refine lv_bipush (v := -99) hx hb dX11_row_9 (by decide +kernel) ?_
    exact k_iret hx hb hr hlocks hK hN hH hw dX11_row_11
def wp_X11_alterRow (a1 : Int32) (a2 : Int32) (a3 : Int32) (S : St) (Q : Int32 → St → Prop) : Prop := wp_X11_isRowPart a1 a2 S (fun r2 S1 => ((r2 = 0 → Q (-99 : Int32) S1) ∧ (¬ r2 = 0 → wp_X11_rowSlot a1 a2 S1 (fun r5 S4 => (vp_in r5 60 ∧ (∀ t7 : Int32, t7 = (gA S4 3 r5.toNatClampNeg) → (vp_in r5 60 ∧ ∀ S9 : St, S9 = sA S4 3 r5.toNatClampNeg a3 → Q t7 S9)))))))
set_option maxHeartbeats 4000000 in
set_option maxRecDepth 100000 in
theorem c_X11_alterRow (l : Launch) (D : va_G) (kA : Nat → ClassId) (ly : Nat → Nat) (n : List Nat) (hn : ∀ c, c < 59 → c ∈ n) (A : Nat → Prop) (a1 : Int32) (a2 : Int32) (a3 : Int32) : Ci l yX11_alterRow wsX11_alterRow 1 22 (Gp D (Ec kA ly) ly n A kA) A [.ref (ly 0), .int a1, .int a2, .int a3] (wp_X11_alterRow a1 a2 a3) := by
  intro S Q
  refine Met.ofW (cc := cX11_alterRow) (maxL := 6) (ret := (some .int)) (by decide) rfl ?_
  intro p e s m args below meth c s₁ B hml hv
  obtain ⟨rfl, ⟨hP, hD, hK, hN⟩, hw⟩ := hv
  have hx := B.exec
  have hb := B.bytes
  have hr := B.returns
  have hts := atoms_spec (ws := wsX11_alterRow) B.pre
  have hown : s.vm.findClass RX11 = some m.cls := findClass_of_methodNamed B.named
  have hlocks := B.notSynchronized
  have hH : Hp D (Ec kA ly) ly n A s.heap S s.heap [] := ⟨hP, hD, va_S.rf⟩
  have hiX11 : ∀ w ∈ u_ws RX11 TX11 12, w ∈ wsX11_alterRow := by decide +kernel
  have lk0 := hts (.fieldLink RX11 23 "SlowPanes" "rows" "[I") (by decide +kernel)
  have hl := lv_entry ([.ref (ly 0), .int a1, .int a2, .int a3]) (n := 6) (Nat.le_of_ble_eq_true rfl)
  rw [lg_entry_eq]
  generalize (lg_sl ([.ref (ly 0), .int a1, .int a2, .int a3]) ++ List.replicate (6 - (lg_sl ([.ref (ly 0), .int a1, .int a2, .int a3])).length) Slot.unset).toArray = ls at hl ⊢
  have hl : lv_has ls 6 [(0, .ref (ly 0)), (1, .int a1), (2, .int a2), (3, .int a3)] := hl
  rw [wp_X11_alterRow] at hw
  refine lv_aload_n hx hb dX11_alterRow_0 rfl (lv_at hl 0 rfl) ?_
  refine lv_iload_n hx hb dX11_alterRow_1 rfl (lv_at hl 1 rfl) ?_
  refine lv_iload_n hx hb dX11_alterRow_2 rfl (lv_at hl 2 rfl) ?_
  refine k_afti (va_runV (As := [.int a1, .int a2]) (rest := []) ⟨hx, hb, hml, hown, hts⟩ (c_X11_isRowPart l D kA ly n hn A a1 a2 S _) (cwV 2 hts gX11_alterRow_X11_isRowPart rfl rfl rfl (by decide +kernel) ⟨(Nat.le_of_ble_eq_true rfl), (Nat.le_of_ble_eq_true rfl)⟩) ⟨k_blind, (k_recv hK hH (lt_n hn (by decide)) Ec_0 rfl), k_pre hK hN hH hw⟩ rfl rfl hl.1 rfl (lv_room (Nat.le_of_ble_eq_true rfl)) dX11_alterRow_3 ⟨Nat.le_refl _, Nat.le_refl _⟩) hH (fun r2 S1 H locs hw hH => ?_)
  refine lv_if_ne (tgt := 12) hx hb dX11_alterRow_6 (by decide) (fun hc3 => ?_) (fun hc3 => ?_)
  · replace hw := hw.2 hc3
    refine lv_iload_n hx hb dX11_alterRow_12 rfl (lv_at hl 1 rfl) ?_
    refine lv_iload_n hx hb dX11_alterRow_13 rfl (lv_at hl 2 rfl) ?_
    refine k_afti (va_runS (As := [.int a1, .int a2]) (rest := []) ⟨hx, hb, hml, hown, hts⟩ (c_X11_rowSlot l D kA ly n hn A a1 a2 S1 _) (va_cwS 2 hts gX11_alterRow_X11_rowSlot rfl rfl rfl (by decide +kernel) ⟨(Nat.le_of_ble_eq_true rfl), (Nat.le_of_ble_eq_true rfl)⟩) ⟨k_blind, k_pre hK hN hH hw⟩ rfl rfl hl.1 rfl (lv_room (Nat.le_of_ble_eq_true rfl)) dX11_alterRow_14 ⟨Nat.le_refl _, Nat.le_refl _⟩) hH (fun r5 S4 H locs hw hH => ?_)
    refine lv_istore (lv' := [(4, .int r5), (0, .ref (ly 0)), (1, .int a1), (2, .int a2), (3, .int a3)]) hx hb dX11_alterRow_17 hl (by decide) rfl (fun ls hl => ?_)
    refine lv_aload_n hx hb dX11_alterRow_19 rfl (lv_at hl 1 rfl) ?_
    refine gf_this_2 hx hb hts hiX11 hown hK hn hH lk0 dX11_alterRow_20 ?_
    refine lv_iload hx hb dX11_alterRow_23 (lv_at hl 0 rfl) ?_
    obtain ⟨hi_6, hw⟩ := hw
    refine k_ild hx hb hK hH (lt_n hn (by decide)) Ec_3 hi_6 dX11_alterRow_25 ?_
    refine lv_topi (fun t7 et7 => ?_)
    replace hw := hw t7 et7
    refine lv_istore (lv' := [(5, .int t7), (4, .int r5), (0, .ref (ly 0)), (1, .int a1), (2, .int a2), (3, .int a3)]) hx hb dX11_alterRow_26 hl (by decide) rfl (fun ls hl => ?_)
    refine lv_aload_n hx hb dX11_alterRow_28 rfl (lv_at hl 2 rfl) ?_
    refine gf_this_2 hx hb hts hiX11 hown hK hn hH lk0 dX11_alterRow_29 ?_
    refine lv_iload hx hb dX11_alterRow_32 (lv_at hl 1 rfl) ?_
    refine lv_iload_n hx hb dX11_alterRow_34 rfl (lv_at hl 5 rfl) ?_
    obtain ⟨hi_8, hw⟩ := hw
    refine k_ist hx hb hK hH (lt_n hn (by decide)) (fun _ => Ec_3) hi_8 dX11_alterRow_35 (fun S9 H locs eS9 hH => ?_)
    replace hw := hw S9 eS9
    refine lv_iload hx hb dX11_alterRow_36 (lv_at hl 0 rfl) ?_
    exact k_iret hx hb hr hlocks hK hN hH hw dX11_alterRow_38
  · replace hw := hw.1 hc3
    refine lv_bipush (v := -99) hx hb dX11_alterRow_9 (by decide +kernel) ?_
    exact k_iret hx hb hr hlocks hK hN hH hw dX11_alterRow_11
def wl_X11_isRowRight_2 (a1 : Int32) (a2 : Int32) (Q : Int32 → St → Prop) (K_2 : Int32 → St → Prop) : Nat → Int32 → St → Prop
  | 0, _, _ => False
  | fu_2 + 1, v3_2, S_2 => (((3 : Int32) ≤ v3_2 → K_2 v3_2 S_2) ∧ (¬ (3 : Int32) ≤ v3_2 → wp_X11_rowSlot a1 v3_2 S_2 (fun r3 S2 => (vp_in r3 60 ∧ wp_X11_rowPart a2 v3_2 S2 (fun r6 S5 => (((gA S2 3 r3.toNatClampNeg) = r6 → (∀ t8 : Int32, t8 = v3_2 + 1 → wl_X11_isRowRight_2 a1 a2 Q K_2 fu_2 t8 S5)) ∧ (¬ (gA S2 3 r3.toNatClampNeg) = r6 → Q (0 : Int32) S5)))))))
def wp_X11_isRowRight (a1 : Int32) (a2 : Int32) (S : St) (Q : Int32 → St → Prop) : Prop := (∃ m_2 : Nat, wl_X11_isRowRight_2 a1 a2 Q (fun e3_9 S10 => Q (1 : Int32) S10) m_2 (0 : Int32) S)
set_option maxHeartbeats 4000000 in
set_option maxRecDepth 100000 in
theorem c_X11_isRowRight (l : Launch) (D : va_G) (kA : Nat → ClassId) (ly : Nat → Nat) (n : List Nat) (hn : ∀ c, c < 59 → c ∈ n) (A : Nat → Prop) (a1 : Int32) (a2 : Int32) : Ci l yX11_isRowRight wsX11_isRowRight 4 86 (Gp D (Ec kA ly) ly n A kA) A [.ref (ly 0), .int a1, .int a2] (wp_X11_isRowRight a1 a2) := by
  intro S Q
  refine Met.ofW (cc := cX11_isRowRight) (maxL := 4) (ret := (some .boolean)) (by decide) rfl ?_
  intro p e s m args below meth c s₁ B hml hv
  obtain ⟨rfl, ⟨hP, hD, hK, hN⟩, hw⟩ := hv
  have hx := B.exec
  have hb := B.bytes
  have hr := B.returns
  have hts := atoms_spec (ws := wsX11_isRowRight) B.pre
  have hown : s.vm.findClass RX11 = some m.cls := findClass_of_methodNamed B.named
  have hlocks := B.notSynchronized
  have hH : Hp D (Ec kA ly) ly n A s.heap S s.heap [] := ⟨hP, hD, va_S.rf⟩
  have hiX11 : ∀ w ∈ u_ws RX11 TX11 12, w ∈ wsX11_isRowRight := by decide +kernel
  have lk0 := hts (.fieldLink RX11 23 "SlowPanes" "rows" "[I") (by decide +kernel)
  have hl := lv_entry ([.ref (ly 0), .int a1, .int a2]) (n := 4) (Nat.le_of_ble_eq_true rfl)
  rw [lg_entry_eq]
  generalize (lg_sl ([.ref (ly 0), .int a1, .int a2]) ++ List.replicate (4 - (lg_sl ([.ref (ly 0), .int a1, .int a2])).length) Slot.unset).toArray = ls at hl ⊢
  have hl : lv_has ls 4 [(0, .ref (ly 0)), (1, .int a1), (2, .int a2)] := hl
  rw [wp_X11_isRowRight] at hw
  refine lv_iconst (v := 0) hx hb dX11_isRowRight_0 (by decide +kernel) ?_
  refine lv_istore_n (lv' := [(3, .int (0 : Int32)), (0, .ref (ly 0)), (1, .int a1), (2, .int a2)]) hx hb dX11_isRowRight_1 rfl hl (by decide) rfl (fun ls hl => ?_)
  have L_2 : ∀ (K_2 : Int32 → St → Prop) (hk_2 : ∀ (v3_2 : Int32) (S_2 : St) (H : Heap) (locs : List Loc) (ls : Array Slot), K_2 v3_2 S_2 → Hp D (Ec kA ly) ly n A s.heap S_2 H locs → lv_has ls 4 [(0, .ref (ly 0)), (1, .int a1), (2, .int a2), (3, .int v3_2)] → W p l e (headSpec wsX11_isRowRight { frames := 4, cells := 0, slots := 0, locals := 86 }).room s m [.ref (ly 0), .int a1, .int a2].toArray below meth c H locs 0 0 (MQ below (va_Qi Q (Gp D (Ec kA ly) ly n A kA) A) [.ref (ly 0), .int a1, .int a2].toArray s 0 0 A) (F0 m 34 ls [])) (fu_2 : Nat) (v3_2 : Int32) (S_2 : St) (H : Heap) (locs : List Loc) (ls : Array Slot), wl_X11_isRowRight_2 a1 a2 Q K_2 fu_2 v3_2 S_2 → Hp D (Ec kA ly) ly n A s.heap S_2 H locs → lv_has ls 4 [(0, .ref (ly 0)), (1, .int a1), (2, .int a2), (3, .int v3_2)] → W p l e (headSpec wsX11_isRowRight { frames := 4, cells := 0, slots := 0, locals := 86 }).room s m [.ref (ly 0), .int a1, .int a2].toArray below meth c H locs 0 0 (MQ below (va_Qi Q (Gp D (Ec kA ly) ly n A kA) A) [.ref (ly 0), .int a1, .int a2].toArray s 0 0 A) (F0 m 2 ls []) := by
    intro K_2 hk_2 fu_2
    induction fu_2 with
    | zero => intro v3_2 S_2 H locs ls hw hH hl; rw [wl_X11_isRowRight_2] at hw; exact hw.elim
    | succ fu_2 ih_2 =>
      intro v3_2 S_2 H locs ls hw hH hl
      rw [wl_X11_isRowRight_2] at hw
      refine lv_iload_n hx hb dX11_isRowRight_2 rfl (lv_at hl 3 rfl) ?_
      refine lv_iconst (v := 3) hx hb dX11_isRowRight_3 (by decide +kernel) ?_
      refine lv_icmp_ge (tgt := 34) hx hb dX11_isRowRight_4 (by decide) (fun hc1 => ?_) (fun hc1 => ?_)
      · replace hw := hw.1 hc1
        exact hk_2 v3_2 S_2 _ _ ls hw hH (lv_sub hl [0, 1, 2, 3] rfl)
      · replace hw := hw.2 hc1
        refine lv_aload_n hx hb dX11_isRowRight_7 rfl (lv_at hl 0 rfl) ?_
        refine gf_this_2 hx hb hts hiX11 hown hK hn hH lk0 dX11_isRowRight_8 ?_
        refine lv_iload_n hx hb dX11_isRowRight_11 rfl (lv_at hl 1 rfl) ?_
        refine lv_iload_n hx hb dX11_isRowRight_12 rfl (lv_at hl 3 rfl) ?_
        refine k_afti (va_runS (As := [.int a1, .int v3_2]) (rest := [.ref (ly 3)]) ⟨hx, hb, hml, hown, hts⟩ (c_X11_rowSlot l D kA ly n hn A a1 v3_2 S_2 _) (va_cwS 2 hts gX11_isRowRight_X11_rowSlot rfl rfl rfl (by decide +kernel) ⟨(Nat.le_of_ble_eq_true rfl), (Nat.le_of_ble_eq_true rfl)⟩) ⟨k_blind, k_pre hK hN hH hw⟩ rfl rfl hl.1 rfl (lv_room (Nat.le_of_ble_eq_true rfl)) dX11_isRowRight_13 ⟨Nat.le_refl _, Nat.le_refl _⟩) hH (fun r3 S2 H locs hw hH => ?_)
        obtain ⟨hi_4, hw⟩ := hw
        refine k_ild hx hb hK hH (lt_n hn (by decide)) Ec_3 hi_4 dX11_isRowRight_16 ?_
        refine lv_aload_n hx hb dX11_isRowRight_17 rfl (lv_at hl 0 rfl) ?_
        refine lv_iload_n hx hb dX11_isRowRight_18 rfl (lv_at hl 2 rfl) ?_
        refine lv_iload_n hx hb dX11_isRowRight_19 rfl (lv_at hl 3 rfl) ?_
        refine k_afti (va_runV (As := [.int a2, .int v3_2]) (rest := [.int (gA S2 3 r3.toNatClampNeg)]) ⟨hx, hb, hml, hown, hts⟩ (c_X11_rowPart l D kA ly n hn A a2 v3_2 S2 _) (cwV 2 hts gX11_isRowRight_X11_rowPart rfl rfl rfl (by decide +kernel) ⟨(Nat.le_of_ble_eq_true rfl), (Nat.le_of_ble_eq_true rfl)⟩) ⟨k_blind, (k_recv hK hH (lt_n hn (by decide)) Ec_0 rfl), k_pre hK hN hH hw⟩ rfl rfl hl.1 rfl (lv_room (Nat.le_of_ble_eq_true rfl)) dX11_isRowRight_20 ⟨Nat.le_refl _, Nat.le_refl _⟩) hH (fun r6 S5 H locs hw hH => ?_)
        refine lv_icmp_eq (tgt := 28) hx hb dX11_isRowRight_23 (by decide) (fun hc7 => ?_) (fun hc7 => ?_)
        · replace hw := hw.1 hc7
          obtain ⟨t8, et8⟩ : ∃ y : Int32, y = v3_2 + 1 := ⟨_, rfl⟩
          replace hw := hw t8 et8
          refine lv_iinc (v := t8) (lv' := [(3, .int t8), (0, .ref (ly 0)), (1, .int a1), (2, .int a2)]) hx hb dX11_isRowRight_28 hl (k := 3) rfl (by rw [et8]; rfl) (by decide) rfl (fun ls hl => ?_)
          refine lv_goto (tgt := 2) hx hb dX11_isRowRight_31 (by decide) ?_
          exact ih_2 t8 S5 _ _ ls hw hH (lv_sub hl [1, 2, 3, 0] rfl)
        · replace hw := hw.2 hc7
          refine lv_iconst (v := 0) hx hb dX11_isRowRight_26 (by decide +kernel) ?_
          exact k_zret hx hb hr hlocks hK hN hH rfl hw dX11_isRowRight_27
  obtain ⟨m_2, hw⟩ := hw
  refine L_2 _ (fun e3_9 S10 H locs ls hw hH hl => ?_) m_2 (0 : Int32) S _ _ ls hw hH (lv_sub hl [1, 2, 3, 0] rfl)
  refine lv_iconst (v := 1) hx hb dX11_isRowRight_34 (by decide +kernel) ?_
  exact k_zret hx hb hr hlocks hK hN hH rfl hw dX11_isRowRight_35
def wl_X11_judge_28  (Q : Int32 → St → Prop) (K_28 : Int32 → St → Prop) : Nat → Int32 → St → Prop
  | 0, _, _ => False
  | fu_28 + 1, v2_28, S_28 => (((gI S_28 0 11) ≤ v2_28 → K_28 v2_28 S_28) ∧ (¬ (gI S_28 0 11) ≤ v2_28 → (∀ o9 : Nat, o9 = (gN S_28 0 8) → isW o9 ∧ (∀ t10 : Int32, t10 = ((gI S_28 o9 4) + v2_28) → (((50 : Int32) ≤ t10 → Q (v2_28 + (1 : Int32)) S_28) ∧ (¬ (50 : Int32) ≤ t10 → wp_X11_isRowRight v2_28 t10 S_28 (fun r13 S12 => ((r13 = 0 → Q (v2_28 + (1 : Int32)) S12) ∧ (¬ r13 = 0 → wp_X3_passDay 57 t10 S12 (fun S15 => (∀ t16 : Int32, t16 = v2_28 + 1 → wl_X11_judge_28 Q K_28 fu_28 t16 S15)))))))))))
def wp_X11_judge (a1 : Int32) (S : St) (Q : Int32 → St → Prop) : Prop := wp_X11_isPane a1 S (fun r2 S1 => ((r2 = 0 → Q (-1 : Int32) S1) ∧ (¬ r2 = 0 → (∀ o4 : Nat, o4 = (gN S1 0 8) → isW o4 ∧ (vp_in a1 6 ∧ ∀ o6 : Nat, o6 = gN S1 (o4 + 3) a1.toNatClampNeg → isPn o6 ∧ wp_X3_copyFrom 57 o6 S1 (fun S7 => (∃ m_28 : Nat, wl_X11_judge_28 Q (fun e2_17 S18 => Q (0 : Int32) S18) m_28 (0 : Int32) S7)))))))
set_option maxHeartbeats 4000000 in
set_option maxRecDepth 100000 in
theorem c_X11_judge (l : Launch) (D : va_G) (kA : Nat → ClassId) (ly : Nat → Nat) (n : List Nat) (hn : ∀ c, c < 59 → c ∈ n) (A : Nat → Prop) (a1 : Int32) : Ci l yX11_judge wsX11_judge 5 109 (Gp D (Ec kA ly) ly n A kA) A [.ref (ly 0), .int a1] (wp_X11_judge a1) := by
  intro S Q
  refine Met.ofW (cc := cX11_judge) (maxL := 4) (ret := (some .int)) (by decide) rfl ?_
  intro p e s m args below meth c s₁ B hml hv
  obtain ⟨rfl, ⟨hP, hD, hK, hN⟩, hw⟩ := hv
  have hx := B.exec
  have hb := B.bytes
  have hr := B.returns
  have hts := atoms_spec (ws := wsX11_judge) B.pre
  have hown : s.vm.findClass RX11 = some m.cls := findClass_of_methodNamed B.named
  have hlocks := B.notSynchronized
  have hH : Hp D (Ec kA ly) ly n A s.heap S s.heap [] := ⟨hP, hD, va_S.rf⟩
  have hiX11 : ∀ w ∈ u_ws RX11 TX11 12, w ∈ wsX11_judge := by decide +kernel
  have hiX10 : ∀ w ∈ u_ws RX10 TX10 6, w ∈ wsX11_judge := by decide +kernel
  have lk0 := hts (.fieldLink RX11 12 "SlowPanes" "trial" "LSlowPanes$Pane;") (by decide +kernel)
  have lk1 := hts (.fieldLink RX11 53 "SlowPanes" "world" "LSlowPanes$World;") (by decide +kernel)
  have lk2 := hts (.fieldLink RX11 124 "SlowPanes$World" "panes" "[LSlowPanes$Pane;") (by decide +kernel)
  have lk3 := hts (.fieldLink RX11 63 "SlowPanes" "rowCount" "I") (by decide +kernel)
  have lk4 := hts (.fieldLink RX11 140 "SlowPanes$World" "today" "I") (by decide +kernel)
  have hl := lv_entry ([.ref (ly 0), .int a1]) (n := 4) (Nat.le_of_ble_eq_true rfl)
  rw [lg_entry_eq]
  generalize (lg_sl ([.ref (ly 0), .int a1]) ++ List.replicate (4 - (lg_sl ([.ref (ly 0), .int a1])).length) Slot.unset).toArray = ls at hl ⊢
  have hl : lv_has ls 4 [(0, .ref (ly 0)), (1, .int a1)] := hl
  rw [wp_X11_judge] at hw
  refine lv_aload_n hx hb dX11_judge_0 rfl (lv_at hl 0 rfl) ?_
  refine lv_iload_n hx hb dX11_judge_1 rfl (lv_at hl 1 rfl) ?_
  refine k_afti (va_runV (As := [.int a1]) (rest := []) ⟨hx, hb, hml, hown, hts⟩ (c_X11_isPane l D kA ly n hn A a1 S _) (cwV 1 hts gX11_judge_X11_isPane rfl rfl rfl (by decide +kernel) ⟨(Nat.le_of_ble_eq_true rfl), (Nat.le_of_ble_eq_true rfl)⟩) ⟨k_blind, (k_recv hK hH (lt_n hn (by decide)) Ec_0 rfl), k_pre hK hN hH hw⟩ rfl rfl hl.1 rfl (lv_room (Nat.le_of_ble_eq_true rfl)) dX11_judge_2 ⟨Nat.le_refl _, Nat.le_refl _⟩) hH (fun r2 S1 H locs hw hH => ?_)
  refine lv_if_ne (tgt := 10) hx hb dX11_judge_5 (by decide) (fun hc3 => ?_) (fun hc3 => ?_)
  · replace hw := hw.2 hc3
    refine lv_aload_n hx hb dX11_judge_10 rfl (lv_at hl 0 rfl) ?_
    refine gf_this_0 hx hb hts hiX11 hown hK hn hH lk0 dX11_judge_11 ?_
    refine lv_aload_n hx hb dX11_judge_14 rfl (lv_at hl 0 rfl) ?_
    refine gf_this_8 hx hb hts hiX11 hown hK hn hH lk1 dX11_judge_15 ?_
    obtain ⟨o4, eo4⟩ : ∃ y : Nat, y = (gN S1 0 8) := ⟨_, rfl⟩
    obtain ⟨ho4, hw⟩ := hw o4 eo4
    rw [← eo4]
    refine gf_w_2 hx hb hts hiX10 hown hK hn hH ho4 lk2 dX11_judge_18 ?_
    refine lv_iload_n hx hb dX11_judge_21 rfl (lv_at hl 1 rfl) ?_
    obtain ⟨hi_5, hw⟩ := hw
    obtain ⟨o6, eo6⟩ : ∃ y : Nat, y = gN S1 (o4 + 3) a1.toNatClampNeg := ⟨_, rfl⟩
    obtain ⟨ho6, hw⟩ := hw o6 eo6
    refine k_ald (t0 := 1) (v := .ref (ly o6)) hx hb hK hH (w_lt hn ho4 3 (by decide)) rfl (Ec_wp ho4) hi_5 (by rw [eo6]; rfl) dX11_judge_22 ?_
    refine k_aftv (va_runV (As := [.ref (ly o6)]) (rest := []) ⟨hx, hb, hml, hown, hts⟩ (c_X3_copyFrom l D kA ly n hn A 57 o6 S1 _) (cwV 1 hts gX11_judge_X3_copyFrom rfl rfl rfl (by decide +kernel) ⟨(Nat.le_of_ble_eq_true rfl), (Nat.le_of_ble_eq_true rfl)⟩) ⟨k_blind, (k_recv hK hH (pn_lt hn isPn57) (Ec_pn isPn57) rfl), k_pre hK hN hH hw⟩ rfl rfl hl.1 rfl (lv_room (Nat.le_of_ble_eq_true rfl)) dX11_judge_23 ⟨Nat.le_refl _, Nat.le_refl _⟩) hH (fun S7 H locs hw hH => ?_)
    refine lv_iconst (v := 0) hx hb dX11_judge_26 (by decide +kernel) ?_
    refine lv_istore_n (lv' := [(2, .int (0 : Int32)), (0, .ref (ly 0)), (1, .int a1)]) hx hb dX11_judge_27 rfl hl (by decide) rfl (fun ls hl => ?_)
    have L_28 : ∀ (K_28 : Int32 → St → Prop) (hk_28 : ∀ (v2_28 : Int32) (S_28 : St) (H : Heap) (locs : List Loc) (ls : Array Slot), K_28 v2_28 S_28 → Hp D (Ec kA ly) ly n A s.heap S_28 H locs → lv_has ls 4 [(0, .ref (ly 0)), (1, .int a1), (2, .int v2_28)] → W p l e (headSpec wsX11_judge { frames := 5, cells := 0, slots := 0, locals := 109 }).room s m [.ref (ly 0), .int a1].toArray below meth c H locs 0 0 (MQ below (va_Qi Q (Gp D (Ec kA ly) ly n A kA) A) [.ref (ly 0), .int a1].toArray s 0 0 A) (F0 m 79 ls [])) (fu_28 : Nat) (v2_28 : Int32) (S_28 : St) (H : Heap) (locs : List Loc) (ls : Array Slot), wl_X11_judge_28 Q K_28 fu_28 v2_28 S_28 → Hp D (Ec kA ly) ly n A s.heap S_28 H locs → lv_has ls 4 [(0, .ref (ly 0)), (1, .int a1), (2, .int v2_28)] → W p l e (headSpec wsX11_judge { frames := 5, cells := 0, slots := 0, locals := 109 }).room s m [.ref (ly 0), .int a1].toArray below meth c H locs 0 0 (MQ below (va_Qi Q (Gp D (Ec kA ly) ly n A kA) A) [.ref (ly 0), .int a1].toArray s 0 0 A) (F0 m 28 ls []) := by
      intro K_28 hk_28 fu_28
      induction fu_28 with
      | zero => intro v2_28 S_28 H locs ls hw hH hl; rw [wl_X11_judge_28] at hw; exact hw.elim
      | succ fu_28 ih_28 =>
        intro v2_28 S_28 H locs ls hw hH hl
        rw [wl_X11_judge_28] at hw
        refine lv_iload_n hx hb dX11_judge_28 rfl (lv_at hl 2 rfl) ?_
        refine lv_aload_n hx hb dX11_judge_29 rfl (lv_at hl 0 rfl) ?_
        refine gf_this_11 hx hb hts hiX11 hown hK hn hH lk3 dX11_judge_30 ?_
        refine lv_icmp_ge (tgt := 79) hx hb dX11_judge_33 (by decide) (fun hc8 => ?_) (fun hc8 => ?_)
        · replace hw := hw.1 hc8
          exact hk_28 v2_28 S_28 _ _ ls hw hH (lv_sub hl [0, 1, 2] rfl)
        · replace hw := hw.2 hc8
          refine lv_aload_n hx hb dX11_judge_36 rfl (lv_at hl 0 rfl) ?_
          refine gf_this_8 hx hb hts hiX11 hown hK hn hH lk1 dX11_judge_37 ?_
          obtain ⟨o9, eo9⟩ : ∃ y : Nat, y = (gN S_28 0 8) := ⟨_, rfl⟩
          obtain ⟨ho9, hw⟩ := hw o9 eo9
          rw [← eo9]
          refine gf_w_4 hx hb hts hiX10 hown hK hn hH ho9 lk4 dX11_judge_40 ?_
          refine lv_iload_n hx hb dX11_judge_43 rfl (lv_at hl 2 rfl) ?_
          refine lv_iadd hx hb dX11_judge_44 ?_
          refine lv_topi (fun t10 et10 => ?_)
          replace hw := hw t10 et10
          refine lv_istore_n (lv' := [(3, .int t10), (0, .ref (ly 0)), (1, .int a1), (2, .int v2_28)]) hx hb dX11_judge_45 rfl hl (by decide) rfl (fun ls hl => ?_)
          refine lv_iload_n hx hb dX11_judge_46 rfl (lv_at hl 0 rfl) ?_
          refine lv_bipush (v := 50) hx hb dX11_judge_47 (by decide +kernel) ?_
          refine lv_icmp_ge (tgt := 61) hx hb dX11_judge_49 (by decide) (fun hc11 => ?_) (fun hc11 => ?_)
          · replace hw := hw.1 hc11
            refine lv_iload_n hx hb dX11_judge_61 rfl (lv_at hl 3 rfl) ?_
            refine lv_iconst (v := 1) hx hb dX11_judge_62 (by decide +kernel) ?_
            refine lv_iadd hx hb dX11_judge_63 ?_
            exact k_iret hx hb hr hlocks hK hN hH hw dX11_judge_64
          · replace hw := hw.2 hc11
            refine lv_aload_n hx hb dX11_judge_52 rfl (lv_at hl 1 rfl) ?_
            refine lv_iload_n hx hb dX11_judge_53 rfl (lv_at hl 3 rfl) ?_
            refine lv_iload_n hx hb dX11_judge_54 rfl (lv_at hl 0 rfl) ?_
            refine k_afti (va_runV (As := [.int v2_28, .int t10]) (rest := []) ⟨hx, hb, hml, hown, hts⟩ (c_X11_isRowRight l D kA ly n hn A v2_28 t10 S_28 _) (cwV 2 hts gX11_judge_X11_isRowRight rfl rfl rfl (by decide +kernel) ⟨(Nat.le_of_ble_eq_true rfl), (Nat.le_of_ble_eq_true rfl)⟩) ⟨k_blind, (k_recv hK hH (lt_n hn (by decide)) Ec_0 rfl), k_pre hK hN hH hw⟩ rfl rfl hl.1 rfl (lv_room (Nat.le_of_ble_eq_true rfl)) dX11_judge_55 ⟨Nat.le_refl _, Nat.le_refl _⟩) hH (fun r13 S12 H locs hw hH => ?_)
            refine lv_if_ne (tgt := 65) hx hb dX11_judge_58 (by decide) (fun hc14 => ?_) (fun hc14 => ?_)
            · replace hw := hw.2 hc14
              refine lv_aload_n hx hb dX11_judge_65 rfl (lv_at hl 1 rfl) ?_
              refine gf_this_0 hx hb hts hiX11 hown hK hn hH lk0 dX11_judge_66 ?_
              refine lv_iload_n hx hb dX11_judge_69 rfl (lv_at hl 0 rfl) ?_
              refine k_aftv (va_runV (As := [.int t10]) (rest := []) ⟨hx, hb, hml, hown, hts⟩ (c_X3_passDay l D kA ly n hn A 57 t10 S12 _) (cwV 1 hts gX11_judge_X3_passDay rfl rfl rfl (by decide +kernel) ⟨(Nat.le_of_ble_eq_true rfl), (Nat.le_of_ble_eq_true rfl)⟩) ⟨k_blind, (k_recv hK hH (pn_lt hn isPn57) (Ec_pn isPn57) rfl), k_pre hK hN hH hw⟩ rfl rfl hl.1 rfl (lv_room (Nat.le_of_ble_eq_true rfl)) dX11_judge_70 ⟨Nat.le_refl _, Nat.le_refl _⟩) hH (fun S15 H locs hw hH => ?_)
              obtain ⟨t16, et16⟩ : ∃ y : Int32, y = v2_28 + 1 := ⟨_, rfl⟩
              replace hw := hw t16 et16
              refine lv_iinc (v := t16) (lv' := [(2, .int t16), (3, .int t10), (0, .ref (ly 0)), (1, .int a1)]) hx hb dX11_judge_73 hl (k := 3) rfl (by rw [et16]; rfl) (by decide) rfl (fun ls hl => ?_)
              refine lv_goto (tgt := 28) hx hb dX11_judge_76 (by decide) ?_
              exact ih_28 t16 S15 _ _ ls hw hH (lv_sub hl [2, 3, 0] rfl)
            · replace hw := hw.1 hc14
              refine lv_iload_n hx hb dX11_judge_61 rfl (lv_at hl 3 rfl) ?_
              refine lv_iconst (v := 1) hx hb dX11_judge_62 (by decide +kernel) ?_
              refine lv_iadd hx hb dX11_judge_63 ?_
              exact k_iret hx hb hr hlocks hK hN hH hw dX11_judge_64
    obtain ⟨m_28, hw⟩ := hw
    refine L_28 _ (fun e2_17 S18 H locs ls hw hH hl => ?_) m_28 (0 : Int32) S7 _ _ ls hw hH (lv_sub hl [1, 2, 0] rfl)
    refine lv_iconst (v := 0) hx hb dX11_judge_79 (by decide +kernel) ?_
    exact k_iret hx hb hr hlocks hK hN hH hw dX11_judge_80
  · replace hw := hw.1 hc3
    refine lv_iconst (v := -1) hx hb dX11_judge_8 (by decide +kernel) ?_
    exact k_iret hx hb hr hlocks hK hN hH hw dX11_judge_9
def wp_X11_isSheet (a0 : Int32) (S : St) (Q : Int32 → St → Prop) : Prop := ((a0 < 0 → Q (0 : Int32) S) ∧ (¬ a0 < 0 → (((4 : Int32) ≤ a0 → Q (0 : Int32) S) ∧ (¬ (4 : Int32) ≤ a0 → Q (1 : Int32) S))))
set_option maxHeartbeats 4000000 in
set_option maxRecDepth 100000 in
theorem c_X11_isSheet (l : Launch) (D : va_G) (kA : Nat → ClassId) (ly : Nat → Nat) (n : List Nat) (hn : ∀ c, c < 59 → c ∈ n) (A : Nat → Prop) (a0 : Int32) : Ci l yX11_isSheet wsX11_isSheet 0 0 (Gp D (Ec kA ly) ly n A kA) A [.int a0] (wp_X11_isSheet a0) := by
  intro S Q
  refine Met.ofW (cc := cX11_isSheet) (maxL := 1) (ret := (some .boolean)) (by decide) rfl ?_
  intro p e s m args below meth c s₁ B hml hv
  obtain ⟨rfl, ⟨hP, hD, hK, hN⟩, hw⟩ := hv
  have hx := B.exec
  have hb := B.bytes
  have hr := B.returns
  have hts := atoms_spec (ws := wsX11_isSheet) B.pre
  have hown : s.vm.findClass RX11 = some m.cls := findClass_of_methodNamed B.named
  have hlocks := B.notSynchronized
  have hH : Hp D (Ec kA ly) ly n A s.heap S s.heap [] := ⟨hP, hD, va_S.rf⟩
  have hl := lv_entry ([.int a0]) (n := 1) (Nat.le_of_ble_eq_true rfl)
  rw [lg_entry_eq]
  generalize (lg_sl ([.int a0]) ++ List.replicate (1 - (lg_sl ([.int a0])).length) Slot.unset).toArray = ls at hl ⊢
  have hl : lv_has ls 1 [(0, .int a0)] := hl
  rw [wp_X11_isSheet] at hw
  refine lv_iload_n hx hb dX11_isSheet_0 rfl (lv_at hl 0 rfl) ?_
  refine lv_if_lt (tgt := 13) hx hb dX11_isSheet_1 (by decide) (fun hc1 => ?_) (fun hc1 => ?_)
  · replace hw := hw.1 hc1
    refine lv_iconst (v := 0) hx hb dX11_isSheet_13 (by decide +kernel) ?_
    exact k_zret hx hb hr hlocks hK hN hH rfl hw dX11_isSheet_14
  · replace hw := hw.2 hc1
    refine lv_iload_n hx hb dX11_isSheet_4 rfl (lv_at hl 0 rfl) ?_
    refine lv_iconst (v := 4) hx hb dX11_isSheet_5 (by decide +kernel) ?_
    refine lv_icmp_ge (tgt := 13) hx hb dX11_isSheet_6 (by decide) (fun hc2 => ?_) (fun hc2 => ?_)
    · replace hw := hw.1 hc2
      refine lv_iconst (v := 0) hx hb dX11_isSheet_13 (by decide +kernel) ?_
      exact k_zret hx hb hr hlocks hK hN hH rfl hw dX11_isSheet_14
    · replace hw := hw.2 hc2
      refine lv_iconst (v := 1) hx hb dX11_isSheet_9 (by decide +kernel) ?_
      refine lv_goto (tgt := 14) hx hb dX11_isSheet_10 (by decide) ?_
      exact k_zret hx hb hr hlocks hK hN hH rfl hw dX11_isSheet_14
def wl_X11_views_89 (n : List Nat) (a2 : Int32) (a3 : Int32) (a4 : Int32) (a5 : Int32) (o13 : Nat) (K_89 : Int32 → St → Prop) : Nat → Int32 → St → Prop
  | 0, _, _ => False
  | fu_89 + 1, v7_89, S_89 => ((a5 ≤ v7_89 → K_89 v7_89 S_89) ∧ (¬ a5 ≤ v7_89 → (∀ o19 : Nat, o19 = (gN S_89 0 8) → isW o19 ∧ wp_X11_viewSlot a3 (a4 + v7_89) S_89 (fun r21 S20 => isSh n S20 o13 ∧ (∀ o23 : Nat, o23 = (gN S20 o13 1) → isIt n S20 o23 ∧ (vp_in (a2 + v7_89) (gN S20 o23 0) ∧ (vp_in r21 200 ∧ ∀ S26 : St, S26 = sA S20 (o19 + 1) r21.toNatClampNeg (if (0 : Int32) < (if (gA S20 o23 (a2 + v7_89).toNatClampNeg) < (99 : Int32) then (gA S20 o23 (a2 + v7_89).toNatClampNeg) else (99 : Int32)) then (if (gA S20 o23 (a2 + v7_89).toNatClampNeg) < (99 : Int32) then (gA S20 o23 (a2 + v7_89).toNatClampNeg) else (99 : Int32)) else (0 : Int32)) → (∀ t27 : Int32, t27 = v7_89 + 1 → wl_X11_views_89 n a2 a3 a4 a5 o13 K_89 fu_89 t27 S26))))))))
def wp_X11_views (n : List Nat) (a1 : Int32) (a2 : Int32) (a3 : Int32) (a4 : Int32) (a5 : Int32) (S : St) (Q : Int32 → St → Prop) : Prop := wp_X11_isSheet a1 S (fun r2 S1 => ((r2 = 0 → Q (-1 : Int32) S1) ∧ (¬ r2 = 0 → wp_X11_isPlace a3 S1 (fun r5 S4 => ((r5 = 0 → Q (-1 : Int32) S4) ∧ (¬ r5 = 0 → wp_X11_isDay a4 S4 (fun r8 S7 => ((r8 = 0 → Q (-1 : Int32) S7) ∧ (¬ r8 = 0 → ((a5 < 0 → Q (-1 : Int32) S7) ∧ (¬ a5 < 0 → ((a5 ≤ ((50 : Int32) - a4) → (vp_in a1 4 ∧ ∀ o13 : Nat, o13 = gN S7 4 a1.toNatClampNeg → (o13 = 0 → Q (-11 : Int32) S7) ∧ (¬ o13 = 0 → isSh n S7 o13 ∧ (((gI S7 o13 0) = 0 → ((a2 < 0 → Q (-12 : Int32) S7) ∧ (¬ a2 < 0 → (∀ o16 : Nat, o16 = (gN S7 o13 1) → isIt n S7 o16 ∧ ((a2 ≤ ((Int32.ofNat (gN S7 o16 0)) - a5) → (∃ m_89 : Nat, wl_X11_views_89 n a2 a3 a4 a5 o13 (fun e7_28 S29 => Q a5 S29) m_89 (0 : Int32) S7)) ∧ (¬ a2 ≤ ((Int32.ofNat (gN S7 o16 0)) - a5) → Q (-12 : Int32) S7)))))) ∧ (¬ (gI S7 o13 0) = 0 → Q (-13 : Int32) S7))))) ∧ (¬ a5 ≤ ((50 : Int32) - a4) → Q (-1 : Int32) S7)))))))))))))
set_option maxHeartbeats 4000000 in
set_option maxRecDepth 100000 in
theorem c_X11_views (l : Launch) (D : va_G) (kA : Nat → ClassId) (ly : Nat → Nat) (n : List Nat) (hn : ∀ c, c < 59 → c ∈ n) (A : Nat → Prop) (a1 : Int32) (a2 : Int32) (a3 : Int32) (a4 : Int32) (a5 : Int32) : Ci l yX11_views wsX11_views 1 21 (Gp D (Ec kA ly) ly n A kA) A [.ref (ly 0), .int a1, .int a2, .int a3, .int a4, .int a5] (wp_X11_views n a1 a2 a3 a4 a5) := by
  intro S Q
  refine Met.ofW (cc := cX11_views) (maxL := 8) (ret := (some .int)) (by decide) rfl ?_
  intro p e s m args below meth c s₁ B hml hv
  obtain ⟨rfl, ⟨hP, hD, hK, hN⟩, hw⟩ := hv
  have hx := B.exec
  have hb := B.bytes
  have hr := B.returns
  have hts := atoms_spec (ws := wsX11_views) B.pre
  have hown : s.vm.findClass RX11 = some m.cls := findClass_of_methodNamed B.named
  have hlocks := B.notSynchronized
  have hH : Hp D (Ec kA ly) ly n A s.heap S s.heap [] := ⟨hP, hD, va_S.rf⟩
  have hiX11 : ∀ w ∈ u_ws RX11 TX11 12, w ∈ wsX11_views := by decide +kernel
  have hiX6 : ∀ w ∈ u_ws RX6 TX6 2, w ∈ wsX11_views := by decide +kernel
  have hiX10 : ∀ w ∈ u_ws RX10 TX10 6, w ∈ wsX11_views := by decide +kernel
  have lk0 := hts (.fieldLink RX11 29 "SlowPanes" "sheets" "[LSlowPanes$Sheet;") (by decide +kernel)
  have lk1 := hts (.fieldLink RX11 223 "SlowPanes$Sheet" "sort" "I") (by decide +kernel)
  have lk2 := hts (.fieldLink RX11 226 "SlowPanes$Sheet" "items" "[I") (by decide +kernel)
  have lk3 := hts (.fieldLink RX11 53 "SlowPanes" "world" "LSlowPanes$World;") (by decide +kernel)
  have lk4 := hts (.fieldLink RX11 98 "SlowPanes$World" "views" "[I") (by decide +kernel)
  have lk5 := hts (.methodLink RX11 202 Lib.Math.min.name) (by decide +kernel)
  have lk6 := hts (.static Lib.Math.min.name) (by decide +kernel)
  have lk7 := hts (.initialized "java/lang/Math") (by decide +kernel)
  have lk8 := hts (.code Lib.Math.min.name Lib.Math.min.code 2 (some .int)) (by decide +kernel)
  have lk9 := hts (.methodLink RX11 229 Lib.Math.max.name) (by decide +kernel)
  have lk10 := hts (.static Lib.Math.max.name) (by decide +kernel)
  have lk11 := hts (.code Lib.Math.max.name Lib.Math.max.code 2 (some .int)) (by decide +kernel)
  have hl := lv_entry ([.ref (ly 0), .int a1, .int a2, .int a3, .int a4, .int a5]) (n := 8) (Nat.le_of_ble_eq_true rfl)
  rw [lg_entry_eq]
  generalize (lg_sl ([.ref (ly 0), .int a1, .int a2, .int a3, .int a4, .int a5]) ++ List.replicate (8 - (lg_sl ([.ref (ly 0), .int a1, .int a2, .int a3, .int a4, .int a5])).length) Slot.unset).toArray = ls at hl ⊢
  have hl : lv_has ls 8 [(0, .ref (ly 0)), (1, .int a1), (2, .int a2), (3, .int a3), (4, .int a4), (5, .int a5)] := hl
  rw [wp_X11_views] at hw
  refine lv_iload_n hx hb dX11_views_0 rfl (lv_at hl 1 rfl) ?_
  refine k_afti (va_runS (As := [.int a1]) (rest := []) ⟨hx, hb, hml, hown, hts⟩ (c_X11_isSheet l D kA ly n hn A a1 S _) (va_cwS 1 hts gX11_views_X11_isSheet rfl rfl rfl (by decide +kernel) ⟨(Nat.le_of_ble_eq_true rfl), (Nat.le_of_ble_eq_true rfl)⟩) ⟨k_blind, k_pre hK hN hH hw⟩ rfl rfl hl.1 rfl (lv_room (Nat.le_of_ble_eq_true rfl)) dX11_views_1 ⟨Nat.le_refl _, Nat.le_refl _⟩) hH (fun r2 S1 H locs hw hH => ?_)
  refine lv_if_eq (tgt := 37) hx hb dX11_views_4 (by decide) (fun hc3 => ?_) (fun hc3 => ?_)
  · replace hw := hw.1 hc3
    refine lv_iconst (v := -1) hx hb dX11_views_37 (by decide +kernel) ?_
    exact k_iret hx hb hr hlocks hK hN hH hw dX11_views_38
  · replace hw := hw.2 hc3
    refine lv_iload_n hx hb dX11_views_7 rfl (lv_at hl 3 rfl) ?_
    refine k_afti (va_runS (As := [.int a3]) (rest := []) ⟨hx, hb, hml, hown, hts⟩ (c_X11_isPlace l D kA ly n hn A a3 S1 _) (va_cwS 1 hts gX11_views_X11_isPlace rfl rfl rfl (by decide +kernel) ⟨(Nat.le_of_ble_eq_true rfl), (Nat.le_of_ble_eq_true rfl)⟩) ⟨k_blind, k_pre hK hN hH hw⟩ rfl rfl hl.1 rfl (lv_room (Nat.le_of_ble_eq_true rfl)) dX11_views_8 ⟨Nat.le_refl _, Nat.le_refl _⟩) hH (fun r5 S4 H locs hw hH => ?_)
    refine lv_if_eq (tgt := 37) hx hb dX11_views_11 (by decide) (fun hc6 => ?_) (fun hc6 => ?_)
    · replace hw := hw.1 hc6
      refine lv_iconst (v := -1) hx hb dX11_views_37 (by decide +kernel) ?_
      exact k_iret hx hb hr hlocks hK hN hH hw dX11_views_38
    · replace hw := hw.2 hc6
      refine lv_iload hx hb dX11_views_14 (lv_at hl 4 rfl) ?_
      refine k_afti (va_runS (As := [.int a4]) (rest := []) ⟨hx, hb, hml, hown, hts⟩ (c_X11_isDay l D kA ly n hn A a4 S4 _) (va_cwS 1 hts gX11_views_X11_isDay rfl rfl rfl (by decide +kernel) ⟨(Nat.le_of_ble_eq_true rfl), (Nat.le_of_ble_eq_true rfl)⟩) ⟨k_blind, k_pre hK hN hH hw⟩ rfl rfl hl.1 rfl (lv_room (Nat.le_of_ble_eq_true rfl)) dX11_views_16 ⟨Nat.le_refl _, Nat.le_refl _⟩) hH (fun r8 S7 H locs hw hH => ?_)
      refine lv_if_eq (tgt := 37) hx hb dX11_views_19 (by decide) (fun hc9 => ?_) (fun hc9 => ?_)
      · replace hw := hw.1 hc9
        refine lv_iconst (v := -1) hx hb dX11_views_37 (by decide +kernel) ?_
        exact k_iret hx hb hr hlocks hK hN hH hw dX11_views_38
      · replace hw := hw.2 hc9
        refine lv_iload hx hb dX11_views_22 (lv_at hl 5 rfl) ?_
        refine lv_if_lt (tgt := 37) hx hb dX11_views_24 (by decide) (fun hc10 => ?_) (fun hc10 => ?_)
        · replace hw := hw.1 hc10
          refine lv_iconst (v := -1) hx hb dX11_views_37 (by decide +kernel) ?_
          exact k_iret hx hb hr hlocks hK hN hH hw dX11_views_38
        · replace hw := hw.2 hc10
          refine lv_iload hx hb dX11_views_27 (lv_at hl 5 rfl) ?_
          refine lv_bipush (v := 50) hx hb dX11_views_29 (by decide +kernel) ?_
          refine lv_iload hx hb dX11_views_31 (lv_at hl 4 rfl) ?_
          refine lv_isub hx hb dX11_views_33 ?_
          refine lv_icmp_le (tgt := 39) hx hb dX11_views_34 (by decide) (fun hc11 => ?_) (fun hc11 => ?_)
          · replace hw := hw.1 hc11
            refine lv_aload_n hx hb dX11_views_39 rfl (lv_at hl 0 rfl) ?_
            refine gf_this_3 hx hb hts hiX11 hown hK hn hH lk0 dX11_views_40 ?_
            refine lv_iload_n hx hb dX11_views_43 rfl (lv_at hl 1 rfl) ?_
            obtain ⟨hi_12, hw⟩ := hw
            obtain ⟨o13, eo13⟩ : ∃ y : Nat, y = gN S7 4 a1.toNatClampNeg := ⟨_, rfl⟩
            replace hw := hw o13 eo13
            by_cases hz30 : o13 = 0
            · replace hw := hw.1 hz30
              refine k_ald (t0 := 2) (v := .null) hx hb hK hH (lt_n hn (by decide)) rfl Ec_4 hi_12 (qsN_0 (by rw [← eo13]; exact hz30)) dX11_views_44 ?_
              refine lv_astoreN (lv' := [(6, .null), (0, .ref (ly 0)), (1, .int a1), (2, .int a2), (3, .int a3), (4, .int a4), (5, .int a5)]) hx hb dX11_views_45 hl (by decide) rfl (fun ls hl => ?_)
              refine lv_aloadN hx hb dX11_views_47 (lv_at hl 0 rfl) ?_
              refine lv_ifnonnullN hx hb dX11_views_49 ?_
              refine lv_bipush (v := -11) hx hb dX11_views_52 (by decide +kernel) ?_
              exact k_iret hx hb hr hlocks hK hN hH hw dX11_views_54
            · obtain ⟨ho13, hw⟩ := hw.2 hz30
              refine k_ald (t0 := 2) (v := .ref (ly o13)) hx hb hK hH (lt_n hn (by decide)) rfl Ec_4 hi_12 (qsN_1 eo13 hz30) dX11_views_44 ?_
              refine lv_astore (lv' := [(6, .ref (ly o13)), (0, .ref (ly 0)), (1, .int a1), (2, .int a2), (3, .int a3), (4, .int a4), (5, .int a5)]) hx hb dX11_views_45 hl (by decide) rfl (fun ls hl => ?_)
              refine lv_aload hx hb dX11_views_47 (lv_at hl 0 rfl) ?_
              refine lv_ifnonnull (tgt := 55) hx hb dX11_views_49 (by decide) ?_
              refine lv_aload hx hb dX11_views_55 (lv_at hl 0 rfl) ?_
              refine gf_sh_0 hx hb hts hiX6 hown hK hn hH ho13 lk1 dX11_views_57 ?_
              refine lv_if_eq (tgt := 66) hx hb dX11_views_60 (by decide) (fun hc14 => ?_) (fun hc14 => ?_)
              · replace hw := hw.1 hc14
                refine lv_iload_n hx hb dX11_views_66 rfl (lv_at hl 3 rfl) ?_
                refine lv_if_lt (tgt := 83) hx hb dX11_views_67 (by decide) (fun hc15 => ?_) (fun hc15 => ?_)
                · replace hw := hw.1 hc15
                  refine lv_bipush (v := -12) hx hb dX11_views_83 (by decide +kernel) ?_
                  exact k_iret hx hb hr hlocks hK hN hH hw dX11_views_85
                · replace hw := hw.2 hc15
                  refine lv_iload_n hx hb dX11_views_70 rfl (lv_at hl 3 rfl) ?_
                  refine lv_aload hx hb dX11_views_71 (lv_at hl 0 rfl) ?_
                  refine gf_sh_1 hx hb hts hiX6 hown hK hn hH ho13 lk2 dX11_views_73 ?_
                  obtain ⟨o16, eo16⟩ : ∃ y : Nat, y = (gN S7 o13 1) := ⟨_, rfl⟩
                  obtain ⟨ho16, hw⟩ := hw o16 eo16
                  rw [← eo16]
                  refine k_alen (t0 := 0) hx hb hK hH ho16.2.1 rfl (Ec_it ho16) rfl dX11_views_76 ?_
                  refine lv_iload hx hb dX11_views_77 (lv_at hl 6 rfl) ?_
                  refine lv_isub hx hb dX11_views_79 ?_
                  refine lv_icmp_le (tgt := 86) hx hb dX11_views_80 (by decide) (fun hc17 => ?_) (fun hc17 => ?_)
                  · replace hw := hw.1 hc17
                    refine lv_iconst (v := 0) hx hb dX11_views_86 (by decide +kernel) ?_
                    refine lv_istore (lv' := [(7, .int (0 : Int32)), (6, .ref (ly o13)), (0, .ref (ly 0)), (1, .int a1), (2, .int a2), (3, .int a3), (4, .int a4), (5, .int a5)]) hx hb dX11_views_87 hl (by decide) rfl (fun ls hl => ?_)
                    have L_89 : ∀ (K_89 : Int32 → St → Prop) (hk_89 : ∀ (v7_89 : Int32) (S_89 : St) (H : Heap) (locs : List Loc) (ls : Array Slot), K_89 v7_89 S_89 → Hp D (Ec kA ly) ly n A s.heap S_89 H locs → lv_has ls 8 [(0, .ref (ly 0)), (1, .int a1), (2, .int a2), (3, .int a3), (4, .int a4), (5, .int a5), (6, .ref (ly o13)), (7, .int v7_89)] → W p l e (headSpec wsX11_views { frames := 1, cells := 0, slots := 0, locals := 21 }).room s m [.ref (ly 0), .int a1, .int a2, .int a3, .int a4, .int a5].toArray below meth c H locs 0 0 (MQ below (va_Qi Q (Gp D (Ec kA ly) ly n A kA) A) [.ref (ly 0), .int a1, .int a2, .int a3, .int a4, .int a5].toArray s 0 0 A) (F0 m 138 ls [])) (fu_89 : Nat) (v7_89 : Int32) (S_89 : St) (H : Heap) (locs : List Loc) (ls : Array Slot), wl_X11_views_89 n a2 a3 a4 a5 o13 K_89 fu_89 v7_89 S_89 → Hp D (Ec kA ly) ly n A s.heap S_89 H locs → lv_has ls 8 [(0, .ref (ly 0)), (1, .int a1), (2, .int a2), (3, .int a3), (4, .int a4), (5, .int a5), (6, .ref (ly o13)), (7, .int v7_89)] → W p l e (headSpec wsX11_views { frames := 1, cells := 0, slots := 0, locals := 21 }).room s m [.ref (ly 0), .int a1, .int a2, .int a3, .int a4, .int a5].toArray below meth c H locs 0 0 (MQ below (va_Qi Q (Gp D (Ec kA ly) ly n A kA) A) [.ref (ly 0), .int a1, .int a2, .int a3, .int a4, .int a5].toArray s 0 0 A) (F0 m 89 ls []) := by
                      intro K_89 hk_89 fu_89
                      induction fu_89 with
                      | zero => intro v7_89 S_89 H locs ls hw hH hl; rw [wl_X11_views_89] at hw; exact hw.elim
                      | succ fu_89 ih_89 =>
                        intro v7_89 S_89 H locs ls hw hH hl
                        rw [wl_X11_views_89] at hw
                        refine lv_iload hx hb dX11_views_89 (lv_at hl 7 rfl) ?_
                        refine lv_iload hx hb dX11_views_91 (lv_at hl 5 rfl) ?_
                        refine lv_icmp_ge (tgt := 138) hx hb dX11_views_93 (by decide) (fun hc18 => ?_) (fun hc18 => ?_)
                        · replace hw := hw.1 hc18
                          exact hk_89 v7_89 S_89 _ _ ls hw hH (lv_sub hl [0, 1, 2, 3, 4, 5, 6, 7] rfl)
                        · replace hw := hw.2 hc18
                          refine lv_aload_n hx hb dX11_views_96 rfl (lv_at hl 0 rfl) ?_
                          refine gf_this_8 hx hb hts hiX11 hown hK hn hH lk3 dX11_views_97 ?_
                          obtain ⟨o19, eo19⟩ : ∃ y : Nat, y = (gN S_89 0 8) := ⟨_, rfl⟩
                          obtain ⟨ho19, hw⟩ := hw o19 eo19
                          rw [← eo19]
                          refine gf_w_0 hx hb hts hiX10 hown hK hn hH ho19 lk4 dX11_views_100 ?_
                          refine lv_iload_n hx hb dX11_views_103 rfl (lv_at hl 3 rfl) ?_
                          refine lv_iload hx hb dX11_views_104 (lv_at hl 4 rfl) ?_
                          refine lv_iload hx hb dX11_views_106 (lv_at hl 7 rfl) ?_
                          refine lv_iadd hx hb dX11_views_108 ?_
                          refine k_afti (va_runS (As := [.int a3, .int (a4 + v7_89)]) (rest := [.ref (ly (o19 + 1))]) ⟨hx, hb, hml, hown, hts⟩ (c_X11_viewSlot l D kA ly n hn A a3 (a4 + v7_89) S_89 _) (va_cwS 2 hts gX11_views_X11_viewSlot rfl rfl rfl (by decide +kernel) ⟨(Nat.le_of_ble_eq_true rfl), (Nat.le_of_ble_eq_true rfl)⟩) ⟨k_blind, k_pre hK hN hH hw⟩ rfl rfl hl.1 rfl (lv_room (Nat.le_of_ble_eq_true rfl)) dX11_views_109 ⟨Nat.le_refl _, Nat.le_refl _⟩) hH (fun r21 S20 H locs hw hH => ?_)
                          refine lv_iconst (v := 0) hx hb dX11_views_112 (by decide +kernel) ?_
                          refine lv_bipush (v := 99) hx hb dX11_views_113 (by decide +kernel) ?_
                          refine lv_aload hx hb dX11_views_115 (lv_at hl 6 rfl) ?_
                          obtain ⟨hs22, hw⟩ := hw
                          refine gf_sh_1 hx hb hts hiX6 hown hK hn hH hs22 lk2 dX11_views_117 ?_
                          obtain ⟨o23, eo23⟩ : ∃ y : Nat, y = (gN S20 o13 1) := ⟨_, rfl⟩
                          obtain ⟨ho23, hw⟩ := hw o23 eo23
                          rw [← eo23]
                          refine lv_iload_n hx hb dX11_views_120 rfl (lv_at hl 2 rfl) ?_
                          refine lv_iload hx hb dX11_views_121 (lv_at hl 7 rfl) ?_
                          refine lv_iadd hx hb dX11_views_123 ?_
                          obtain ⟨hi_24, hw⟩ := hw
                          refine k_ild hx hb hK hH ho23.2.1 (Ec_it ho23) hi_24 dX11_views_124 ?_
                          refine va_mmin hx hb (hml.trans hl.1.symm) hown lk5 lk6 lk7 lk8 (Nat.le_of_ble_eq_true rfl) (Nat.le_of_ble_eq_true rfl) (Nat.le_refl _) (Nat.le_refl _) dX11_views_125 ?_
                          refine va_mmax hx hb (hml.trans hl.1.symm) hown lk9 lk10 lk7 lk11 (Nat.le_of_ble_eq_true rfl) (Nat.le_of_ble_eq_true rfl) (Nat.le_refl _) (Nat.le_refl _) dX11_views_128 ?_
                          obtain ⟨hi_25, hw⟩ := hw
                          refine k_ist hx hb hK hH (w_lt hn ho19 1 (by decide)) (fun _ => (Ec_wv ho19)) hi_25 dX11_views_131 (fun S26 H locs eS26 hH => ?_)
                          replace hw := hw S26 eS26
                          obtain ⟨t27, et27⟩ : ∃ y : Int32, y = v7_89 + 1 := ⟨_, rfl⟩
                          replace hw := hw t27 et27
                          refine lv_iinc (v := t27) (lv' := [(7, .int t27), (0, .ref (ly 0)), (1, .int a1), (2, .int a2), (3, .int a3), (4, .int a4), (5, .int a5), (6, .ref (ly o13))]) hx hb dX11_views_132 hl (k := 7) rfl (by rw [et27]; rfl) (by decide) rfl (fun ls hl => ?_)
                          refine lv_goto (tgt := 89) hx hb dX11_views_135 (by decide) ?_
                          exact ih_89 t27 S26 _ _ ls hw hH (lv_sub hl [1, 2, 3, 4, 5, 6, 7, 0] rfl)
                    obtain ⟨m_89, hw⟩ := hw
                    refine L_89 _ (fun e7_28 S29 H locs ls hw hH hl => ?_) m_89 (0 : Int32) S7 _ _ ls hw hH (lv_sub hl [2, 3, 4, 5, 6, 7, 1, 0] rfl)
                    refine lv_iload hx hb dX11_views_138 (lv_at hl 5 rfl) ?_
                    exact k_iret hx hb hr hlocks hK hN hH hw dX11_views_140
                  · replace hw := hw.2 hc17
                    refine lv_bipush (v := -12) hx hb dX11_views_83 (by decide +kernel) ?_
                    exact k_iret hx hb hr hlocks hK hN hH hw dX11_views_85
              · replace hw := hw.2 hc14
                refine lv_bipush (v := -13) hx hb dX11_views_63 (by decide +kernel) ?_
                exact k_iret hx hb hr hlocks hK hN hH hw dX11_views_65
          · replace hw := hw.2 hc11
            refine lv_iconst (v := -1) hx hb dX11_views_37 (by decide +kernel) ?_
            exact k_iret hx hb hr hlocks hK hN hH hw dX11_views_38
