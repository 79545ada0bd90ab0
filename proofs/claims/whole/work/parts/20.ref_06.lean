def wl_X12_dark_17 (a1 : Int32) (K_17 : Int32 → St → Prop) : Nat → Int32 → St → Prop
  | 0, _, _ => False
  | fu_17 + 1, v2_17, S_17 => ((0 ≤ v2_17 → K_17 v2_17 S_17) ∧ (¬ 0 ≤ v2_17 → (vp_in ((gI S_17 0 3) + (0 : Int32)) 232 ∧ (((50 : Int32) ≤ (gA S_17 3 ((gI S_17 0 3) + (0 : Int32)).toNatClampNeg) → K_17 v2_17 S_17) ∧ (¬ (50 : Int32) ≤ (gA S_17 3 ((gI S_17 0 3) + (0 : Int32)).toNatClampNeg) → wp_X12_lastOf a1 S_17 (fun r9 S8 => ((r9 < 0 → wp_X12_dayGoes S8 (fun S11 => wl_X12_dark_17 a1 K_17 fu_17 (-3 : Int32) S11)) ∧ (¬ r9 < 0 → (vp_in ((gI S8 0 3) + (0 : Int32)) 232 ∧ (∀ t13 : Int32, t13 = (gA S8 3 ((gI S8 0 3) + (0 : Int32)).toNatClampNeg) → wp_X12_dayGoes S8 (fun S14 => wl_X12_dark_17 a1 K_17 fu_17 t13 S14)))))))))))
def wp_X12_dark (a1 : Int32) (S : St) (Q : Int32 → St → Prop) : Prop := wp_X12_isPane a1 S (fun r2 S1 => ((r2 = 0 → Q (-1 : Int32) S1) ∧ (¬ r2 = 0 → wp_X12_lends S1 (fun S4 => (∃ m_17 : Nat, wl_X12_dark_17 a1 (fun e2_15 S16 => (∀ S17 : St, S17 = sI S16 0 3 (0 : Int32) → Q e2_15 S17)) m_17 (-3 : Int32) S4)))))
set_option maxHeartbeats 4000000 in
set_option maxRecDepth 100000 in
theorem c_X12_dark (l : Launch) (D : va_G) (kA : Nat → ClassId) (ly : Nat → Nat) (n : List Nat) (hn : ∀ c, c < 20 → c ∈ n) (A : Nat → Prop) (a1 : Int32) : Ci l yX12_dark wsX12_dark 3 68 (Gp D (Er kA ly) ly n A kA) A [.ref (ly 0), .int a1] (wp_X12_dark a1) := by
  intro S Q
  refine Met.ofW (cc := cX12_dark) (maxL := 3) (ret := (some .int)) (by decide) rfl ?_
  intro p e s m args below meth c s₁ B hml hv
  obtain ⟨rfl, ⟨hP, hD, hK, hN⟩, hw⟩ := hv
  have hx := B.exec
  have hb := B.bytes
  have hr := B.returns
  have hts := atoms_spec (ws := wsX12_dark) B.pre
  have hown : s.vm.findClass RX12 = some m.cls := findClass_of_methodNamed B.named
  have hlocks := B.notSynchronized
  have hH : Hp D (Er kA ly) ly n A s.heap S s.heap [] := ⟨hP, hD, va_S.rf⟩
  have hiX12 : ∀ w ∈ u_ws RX12 TX12 39, w ∈ wsX12_dark := by decide +kernel
  have lk0 := hts (.fieldLink RX12 16 "SlowPanesModel" "row" "[I") (by decide +kernel)
  have lk1 := hts (.fieldLink RX12 76 "SlowPanesModel" "at" "I") (by decide +kernel)
  have hl := lv_entry ([.ref (ly 0), .int a1]) (n := 3) (Nat.le_of_ble_eq_true rfl)
  rw [lg_entry_eq]
  generalize (lg_sl ([.ref (ly 0), .int a1]) ++ List.replicate (3 - (lg_sl ([.ref (ly 0), .int a1])).length) Slot.unset).toArray = ls at hl ⊢
  have hl : lv_has ls 3 [(0, .ref (ly 0)), (1, .int a1)] := hl
  rw [wp_X12_dark] at hw
  refine lv_aload_n hx hb dX12_dark_0 rfl (lv_at hl 0 rfl) ?_
  refine lv_iload_n hx hb dX12_dark_1 rfl (lv_at hl 1 rfl) ?_
  refine k_afti (va_runV (As := [.int a1]) (rest := []) ⟨hx, hb, hml, hown, hts⟩ (c_X12_isPane l D kA ly n hn A a1 S _) (cwV 1 hts gX12_dark_X12_isPane rfl rfl rfl (by decide +kernel) ⟨(Nat.le_of_ble_eq_true rfl), (Nat.le_of_ble_eq_true rfl)⟩) ⟨k_blind, (k_recv hK hH (hn _ (by decide)) Er_0 rfl), k_pre hK hN hH hw⟩ rfl rfl hl.1 rfl (lv_room (Nat.le_of_ble_eq_true rfl)) dX12_dark_2 ⟨Nat.le_refl _, Nat.le_refl _⟩) hH (fun r2 S1 H locs hw hH => ?_)
  refine lv_if_ne (tgt := 10) hx hb dX12_dark_5 (by decide) (fun hc3 => ?_) (fun hc3 => ?_)
  · replace hw := hw.2 hc3
    refine lv_aload_n hx hb dX12_dark_10 rfl (lv_at hl 0 rfl) ?_
    refine k_aftv (va_runV (As := []) (rest := []) ⟨hx, hb, hml, hown, hts⟩ (c_X12_lends l D kA ly n hn A S1 _) (cwV 0 hts gX12_dark_X12_lends rfl rfl rfl (by decide +kernel) ⟨(Nat.le_of_ble_eq_true rfl), (Nat.le_of_ble_eq_true rfl)⟩) ⟨k_blind, (k_recv hK hH (hn _ (by decide)) Er_0 rfl), k_pre hK hN hH hw⟩ rfl rfl hl.1 rfl (lv_room (Nat.le_of_ble_eq_true rfl)) dX12_dark_11 ⟨Nat.le_refl _, Nat.le_refl _⟩) hH (fun S4 H locs hw hH => ?_)
    refine lv_bipush (v := -3) hx hb dX12_dark_14 (by decide +kernel) ?_
    refine lv_istore_n (lv' := [(2, .int (-3 : Int32)), (0, .ref (ly 0)), (1, .int a1)]) hx hb dX12_dark_16 rfl hl (by decide) rfl (fun ls hl => ?_)
    have L_17 : ∀ (K_17 : Int32 → St → Prop) (hk_17 : ∀ (v2_17 : Int32) (S_17 : St) (H : Heap) (locs : List Loc) (ls : Array Slot), K_17 v2_17 S_17 → Hp D (Er kA ly) ly n A s.heap S_17 H locs → lv_has ls 3 [(0, .ref (ly 0)), (1, .int a1), (2, .int v2_17)] → W p l e (headSpec wsX12_dark { frames := 3, cells := 0, slots := 0, locals := 68 }).room s m [.ref (ly 0), .int a1].toArray below meth c H locs 0 0 (MQ below (va_Qi Q (Gp D (Er kA ly) ly n A kA) A) [.ref (ly 0), .int a1].toArray s 0 0 A) (F0 m 69 ls [])) (fu_17 : Nat) (v2_17 : Int32) (S_17 : St) (H : Heap) (locs : List Loc) (ls : Array Slot), wl_X12_dark_17 a1 K_17 fu_17 v2_17 S_17 → Hp D (Er kA ly) ly n A s.heap S_17 H locs → lv_has ls 3 [(0, .ref (ly 0)), (1, .int a1), (2, .int v2_17)] → W p l e (headSpec wsX12_dark { frames := 3, cells := 0, slots := 0, locals := 68 }).room s m [.ref (ly 0), .int a1].toArray below meth c H locs 0 0 (MQ below (va_Qi Q (Gp D (Er kA ly) ly n A kA) A) [.ref (ly 0), .int a1].toArray s 0 0 A) (F0 m 17 ls []) := by
      intro K_17 hk_17 fu_17
      induction fu_17 with
      | zero => intro v2_17 S_17 H locs ls hw hH hl; rw [wl_X12_dark_17] at hw; exact hw.elim
      | succ fu_17 ih_17 =>
        intro v2_17 S_17 H locs ls hw hH hl
        rw [wl_X12_dark_17] at hw
        refine lv_iload_n hx hb dX12_dark_17 rfl (lv_at hl 2 rfl) ?_
        refine lv_if_ge (tgt := 69) hx hb dX12_dark_18 (by decide) (fun hc5 => ?_) (fun hc5 => ?_)
        · replace hw := hw.1 hc5
          exact hk_17 v2_17 S_17 _ _ ls hw hH (lv_sub hl [0, 1, 2] rfl)
        · replace hw := hw.2 hc5
          refine lv_aload_n hx hb dX12_dark_21 rfl (lv_at hl 0 rfl) ?_
          refine gf_r_2 hx hb hts hiX12 hown hK hn hH lk0 dX12_dark_22 ?_
          refine lv_aload_n hx hb dX12_dark_25 rfl (lv_at hl 0 rfl) ?_
          refine gf_r_3 hx hb hts hiX12 hown hK hn hH lk1 dX12_dark_26 ?_
          refine lv_iconst (v := 0) hx hb dX12_dark_29 (by decide +kernel) ?_
          refine lv_iadd hx hb dX12_dark_30 ?_
          obtain ⟨hi_6, hw⟩ := hw
          refine k_ild hx hb hK hH (hn _ (by decide)) Er_3 hi_6 dX12_dark_31 ?_
          refine lv_bipush (v := 50) hx hb dX12_dark_32 (by decide +kernel) ?_
          refine lv_icmp_ge (tgt := 69) hx hb dX12_dark_34 (by decide) (fun hc7 => ?_) (fun hc7 => ?_)
          · replace hw := hw.1 hc7
            exact hk_17 v2_17 S_17 _ _ ls hw hH (lv_sub hl [0, 1, 2] rfl)
          · replace hw := hw.2 hc7
            refine lv_aload_n hx hb dX12_dark_37 rfl (lv_at hl 0 rfl) ?_
            refine lv_iload_n hx hb dX12_dark_38 rfl (lv_at hl 1 rfl) ?_
            refine k_afti (va_runV (As := [.int a1]) (rest := []) ⟨hx, hb, hml, hown, hts⟩ (c_X12_lastOf l D kA ly n hn A a1 S_17 _) (cwV 1 hts gX12_dark_X12_lastOf rfl rfl rfl (by decide +kernel) ⟨(Nat.le_of_ble_eq_true rfl), (Nat.le_of_ble_eq_true rfl)⟩) ⟨k_blind, (k_recv hK hH (hn _ (by decide)) Er_0 rfl), k_pre hK hN hH hw⟩ rfl rfl hl.1 rfl (lv_room (Nat.le_of_ble_eq_true rfl)) dX12_dark_39 ⟨Nat.le_refl _, Nat.le_refl _⟩) hH (fun r9 S8 H locs hw hH => ?_)
            refine lv_if_lt (tgt := 59) hx hb dX12_dark_42 (by decide) (fun hc10 => ?_) (fun hc10 => ?_)
            · replace hw := hw.1 hc10
              refine lv_bipush (v := -3) hx hb dX12_dark_59 (by decide +kernel) ?_
              refine lv_istore_n (lv' := [(2, .int (-3 : Int32)), (0, .ref (ly 0)), (1, .int a1)]) hx hb dX12_dark_61 rfl hl (by decide) rfl (fun ls hl => ?_)
              refine lv_aload_n hx hb dX12_dark_62 rfl (lv_at hl 1 rfl) ?_
              refine k_aftv (va_runV (As := []) (rest := []) ⟨hx, hb, hml, hown, hts⟩ (c_X12_dayGoes l D kA ly n hn A S8 _) (cwV 0 hts gX12_dark_X12_dayGoes rfl rfl rfl (by decide +kernel) ⟨(Nat.le_of_ble_eq_true rfl), (Nat.le_of_ble_eq_true rfl)⟩) ⟨k_blind, (k_recv hK hH (hn _ (by decide)) Er_0 rfl), k_pre hK hN hH hw⟩ rfl rfl hl.1 rfl (lv_room (Nat.le_of_ble_eq_true rfl)) dX12_dark_63 ⟨Nat.le_refl _, Nat.le_refl _⟩) hH (fun S11 H locs hw hH => ?_)
              refine lv_goto (tgt := 17) hx hb dX12_dark_66 (by decide) ?_
              exact ih_17 (-3 : Int32) S11 _ _ ls hw hH (lv_sub hl [1, 2, 0] rfl)
            · replace hw := hw.2 hc10
              refine lv_aload_n hx hb dX12_dark_45 rfl (lv_at hl 0 rfl) ?_
              refine gf_r_2 hx hb hts hiX12 hown hK hn hH lk0 dX12_dark_46 ?_
              refine lv_aload_n hx hb dX12_dark_49 rfl (lv_at hl 0 rfl) ?_
              refine gf_r_3 hx hb hts hiX12 hown hK hn hH lk1 dX12_dark_50 ?_
              refine lv_iconst (v := 0) hx hb dX12_dark_53 (by decide +kernel) ?_
              refine lv_iadd hx hb dX12_dark_54 ?_
              obtain ⟨hi_12, hw⟩ := hw
              refine k_ild hx hb hK hH (hn _ (by decide)) Er_3 hi_12 dX12_dark_55 ?_
              refine lv_goto (tgt := 61) hx hb dX12_dark_56 (by decide) ?_
              refine lv_topi (fun t13 et13 => ?_)
              replace hw := hw t13 et13
              refine lv_istore_n (lv' := [(2, .int t13), (0, .ref (ly 0)), (1, .int a1)]) hx hb dX12_dark_61 rfl hl (by decide) rfl (fun ls hl => ?_)
              refine lv_aload_n hx hb dX12_dark_62 rfl (lv_at hl 1 rfl) ?_
              refine k_aftv (va_runV (As := []) (rest := []) ⟨hx, hb, hml, hown, hts⟩ (c_X12_dayGoes l D kA ly n hn A S8 _) (cwV 0 hts gX12_dark_X12_dayGoes rfl rfl rfl (by decide +kernel) ⟨(Nat.le_of_ble_eq_true rfl), (Nat.le_of_ble_eq_true rfl)⟩) ⟨k_blind, (k_recv hK hH (hn _ (by decide)) Er_0 rfl), k_pre hK hN hH hw⟩ rfl rfl hl.1 rfl (lv_room (Nat.le_of_ble_eq_true rfl)) dX12_dark_63 ⟨Nat.le_refl _, Nat.le_refl _⟩) hH (fun S14 H locs hw hH => ?_)
              refine lv_goto (tgt := 17) hx hb dX12_dark_66 (by decide) ?_
              exact ih_17 t13 S14 _ _ ls hw hH (lv_sub hl [1, 2, 0] rfl)
    obtain ⟨m_17, hw⟩ := hw
    refine L_17 _ (fun e2_15 S16 H locs ls hw hH hl => ?_) m_17 (-3 : Int32) S4 _ _ ls hw hH (lv_sub hl [1, 2, 0] rfl)
    refine lv_aload_n hx hb dX12_dark_69 rfl (lv_at hl 0 rfl) ?_
    refine lv_iconst (v := 0) hx hb dX12_dark_70 (by decide +kernel) ?_
    refine pf_r_3 hx hb hts hiX12 hown hK hn hH lk1 dX12_dark_71 (fun S17 H locs eS17 hH => ?_)
    replace hw := hw S17 eS17
    refine lv_iload_n hx hb dX12_dark_74 rfl (lv_at hl 2 rfl) ?_
    exact k_iret hx hb hr hlocks hK hN hH hw dX12_dark_75
  · replace hw := hw.1 hc3
    refine lv_iconst (v := -1) hx hb dX12_dark_8 (by decide +kernel) ?_
    exact k_iret hx hb hr hlocks hK hN hH hw dX12_dark_9
def wl_X12_seen_57 (a1 : Int32) (a2 : Int32) (a3 : Int32) (K_57 : Int32 → Int32 → St → Prop) : Nat → Int32 → Int32 → St → Prop
  | 0, _, _, _ => False
  | fu_57 + 1, v4_57, v5_57, S_57 => (vp_in ((gI S_57 0 3) + (1 : Int32)) 232 ∧ (((gA S_57 3 ((gI S_57 0 3) + (1 : Int32)).toNatClampNeg) ≤ v5_57 → K_57 v4_57 v5_57 S_57) ∧ (¬ (gA S_57 3 ((gI S_57 0 3) + (1 : Int32)).toNatClampNeg) ≤ v5_57 → ((0 ≤ v4_57 → K_57 v4_57 v5_57 S_57) ∧ (¬ 0 ≤ v4_57 → wp_X12_lastOf v5_57 S_57 (fun r18 S17 => ((r18 = (((10 : Int32) * a2) + a1) → ((a3 = 0 → (vp_in ((gI S17 0 3) + (0 : Int32)) 232 ∧ (∀ t24 : Int32, t24 = (gA S17 3 ((gI S17 0 3) + (0 : Int32)).toNatClampNeg) → (∀ t25 : Int32, t25 = v5_57 + 1 → wl_X12_seen_57 a1 a2 a3 K_57 fu_57 t24 t25 S17)))) ∧ (¬ a3 = 0 → (∀ t22 : Int32, t22 = v5_57 + 1 → wl_X12_seen_57 a1 a2 a3 K_57 fu_57 v5_57 t22 S17)))) ∧ (¬ r18 = (((10 : Int32) * a2) + a1) → (∀ t20 : Int32, t20 = v5_57 + 1 → wl_X12_seen_57 a1 a2 a3 K_57 fu_57 (-3 : Int32) t20 S17)))))))))
def wl_X12_seen_33 (a1 : Int32) (a2 : Int32) (a3 : Int32) (K_33 : Int32 → St → Prop) : Nat → Int32 → St → Prop
  | 0, _, _ => False
  | fu_33 + 1, v4_33, S_33 => ((0 ≤ v4_33 → K_33 v4_33 S_33) ∧ (¬ 0 ≤ v4_33 → (vp_in ((gI S_33 0 3) + (0 : Int32)) 232 ∧ (((50 : Int32) ≤ (gA S_33 3 ((gI S_33 0 3) + (0 : Int32)).toNatClampNeg) → K_33 v4_33 S_33) ∧ (¬ (50 : Int32) ≤ (gA S_33 3 ((gI S_33 0 3) + (0 : Int32)).toNatClampNeg) → (∃ m_57 : Nat, wl_X12_seen_57 a1 a2 a3 (fun e4_26 e5_27 S28 => wp_X12_dayGoes S28 (fun S29 => wl_X12_seen_33 a1 a2 a3 K_33 fu_33 e4_26 S29)) m_57 v4_33 (0 : Int32) S_33))))))
def wp_X12_seen (a1 : Int32) (a2 : Int32) (a3 : Int32) (S : St) (Q : Int32 → St → Prop) : Prop := wp_X12_isPlace a1 S (fun r2 S1 => ((r2 = 0 → Q (-1 : Int32) S1) ∧ (¬ r2 = 0 → wp_X12_isDay a2 S1 (fun r5 S4 => ((r5 = 0 → Q (-1 : Int32) S4) ∧ (¬ r5 = 0 → wp_X12_in a3 (0 : Int32) (1 : Int32) S4 (fun r8 S7 => ((r8 = 0 → Q (-1 : Int32) S7) ∧ (¬ r8 = 0 → wp_X12_lends S7 (fun S10 => (∃ m_33 : Nat, wl_X12_seen_33 a1 a2 a3 (fun e4_30 S31 => (∀ S32 : St, S32 = sI S31 0 3 (0 : Int32) → Q e4_30 S32)) m_33 (-3 : Int32) S10)))))))))))
set_option maxHeartbeats 4000000 in
set_option maxRecDepth 100000 in
theorem c_X12_seen (l : Launch) (D : va_G) (kA : Nat → ClassId) (ly : Nat → Nat) (n : List Nat) (hn : ∀ c, c < 20 → c ∈ n) (A : Nat → Prop) (a1 : Int32) (a2 : Int32) (a3 : Int32) : Ci l yX12_seen wsX12_seen 3 68 (Gp D (Er kA ly) ly n A kA) A [.ref (ly 0), .int a1, .int a2, .int a3] (wp_X12_seen a1 a2 a3) := by
  intro S Q
  refine Met.ofW (cc := cX12_seen) (maxL := 6) (ret := (some .int)) (by decide) rfl ?_
  intro p e s m args below meth c s₁ B hml hv
  obtain ⟨rfl, ⟨hP, hD, hK, hN⟩, hw⟩ := hv
  have hx := B.exec
  have hb := B.bytes
  have hr := B.returns
  have hts := atoms_spec (ws := wsX12_seen) B.pre
  have hown : s.vm.findClass RX12 = some m.cls := findClass_of_methodNamed B.named
  have hlocks := B.notSynchronized
  have hH : Hp D (Er kA ly) ly n A s.heap S s.heap [] := ⟨hP, hD, va_S.rf⟩
  have hiX12 : ∀ w ∈ u_ws RX12 TX12 39, w ∈ wsX12_seen := by decide +kernel
  have lk0 := hts (.fieldLink RX12 16 "SlowPanesModel" "row" "[I") (by decide +kernel)
  have lk1 := hts (.fieldLink RX12 76 "SlowPanesModel" "at" "I") (by decide +kernel)
  have hl := lv_entry ([.ref (ly 0), .int a1, .int a2, .int a3]) (n := 6) (Nat.le_of_ble_eq_true rfl)
  rw [lg_entry_eq]
  generalize (lg_sl ([.ref (ly 0), .int a1, .int a2, .int a3]) ++ List.replicate (6 - (lg_sl ([.ref (ly 0), .int a1, .int a2, .int a3])).length) Slot.unset).toArray = ls at hl ⊢
  have hl : lv_has ls 6 [(0, .ref (ly 0)), (1, .int a1), (2, .int a2), (3, .int a3)] := hl
  rw [wp_X12_seen] at hw
  refine lv_iload_n hx hb dX12_seen_0 rfl (lv_at hl 1 rfl) ?_
  refine k_afti (va_runS (As := [.int a1]) (rest := []) ⟨hx, hb, hml, hown, hts⟩ (c_X12_isPlace l D kA ly n hn A a1 S _) (va_cwS 1 hts gX12_seen_X12_isPlace rfl rfl rfl (by decide +kernel) ⟨(Nat.le_of_ble_eq_true rfl), (Nat.le_of_ble_eq_true rfl)⟩) ⟨k_blind, k_pre hK hN hH hw⟩ rfl rfl hl.1 rfl (lv_room (Nat.le_of_ble_eq_true rfl)) dX12_seen_1 ⟨Nat.le_refl _, Nat.le_refl _⟩) hH (fun r2 S1 H locs hw hH => ?_)
  refine lv_if_eq (tgt := 23) hx hb dX12_seen_4 (by decide) (fun hc3 => ?_) (fun hc3 => ?_)
  · replace hw := hw.1 hc3
    refine lv_iconst (v := -1) hx hb dX12_seen_23 (by decide +kernel) ?_
    exact k_iret hx hb hr hlocks hK hN hH hw dX12_seen_24
  · replace hw := hw.2 hc3
    refine lv_iload_n hx hb dX12_seen_7 rfl (lv_at hl 2 rfl) ?_
    refine k_afti (va_runS (As := [.int a2]) (rest := []) ⟨hx, hb, hml, hown, hts⟩ (c_X12_isDay l D kA ly n hn A a2 S1 _) (va_cwS 1 hts gX12_seen_X12_isDay rfl rfl rfl (by decide +kernel) ⟨(Nat.le_of_ble_eq_true rfl), (Nat.le_of_ble_eq_true rfl)⟩) ⟨k_blind, k_pre hK hN hH hw⟩ rfl rfl hl.1 rfl (lv_room (Nat.le_of_ble_eq_true rfl)) dX12_seen_8 ⟨Nat.le_refl _, Nat.le_refl _⟩) hH (fun r5 S4 H locs hw hH => ?_)
    refine lv_if_eq (tgt := 23) hx hb dX12_seen_11 (by decide) (fun hc6 => ?_) (fun hc6 => ?_)
    · replace hw := hw.1 hc6
      refine lv_iconst (v := -1) hx hb dX12_seen_23 (by decide +kernel) ?_
      exact k_iret hx hb hr hlocks hK hN hH hw dX12_seen_24
    · replace hw := hw.2 hc6
      refine lv_iload_n hx hb dX12_seen_14 rfl (lv_at hl 3 rfl) ?_
      refine lv_iconst (v := 0) hx hb dX12_seen_15 (by decide +kernel) ?_
      refine lv_iconst (v := 1) hx hb dX12_seen_16 (by decide +kernel) ?_
      refine k_afti (va_runS (As := [.int a3, .int (0 : Int32), .int (1 : Int32)]) (rest := []) ⟨hx, hb, hml, hown, hts⟩ (c_X12_in l D kA ly n hn A a3 (0 : Int32) (1 : Int32) S4 _) (va_cwS 3 hts gX12_seen_X12_in rfl rfl rfl (by decide +kernel) ⟨(Nat.le_of_ble_eq_true rfl), (Nat.le_of_ble_eq_true rfl)⟩) ⟨k_blind, k_pre hK hN hH hw⟩ rfl rfl hl.1 rfl (lv_room (Nat.le_of_ble_eq_true rfl)) dX12_seen_17 ⟨Nat.le_refl _, Nat.le_refl _⟩) hH (fun r8 S7 H locs hw hH => ?_)
      refine lv_if_ne (tgt := 25) hx hb dX12_seen_20 (by decide) (fun hc9 => ?_) (fun hc9 => ?_)
      · replace hw := hw.2 hc9
        refine lv_aload_n hx hb dX12_seen_25 rfl (lv_at hl 0 rfl) ?_
        refine k_aftv (va_runV (As := []) (rest := []) ⟨hx, hb, hml, hown, hts⟩ (c_X12_lends l D kA ly n hn A S7 _) (cwV 0 hts gX12_seen_X12_lends rfl rfl rfl (by decide +kernel) ⟨(Nat.le_of_ble_eq_true rfl), (Nat.le_of_ble_eq_true rfl)⟩) ⟨k_blind, (k_recv hK hH (hn _ (by decide)) Er_0 rfl), k_pre hK hN hH hw⟩ rfl rfl hl.1 rfl (lv_room (Nat.le_of_ble_eq_true rfl)) dX12_seen_26 ⟨Nat.le_refl _, Nat.le_refl _⟩) hH (fun S10 H locs hw hH => ?_)
        refine lv_bipush (v := -3) hx hb dX12_seen_29 (by decide +kernel) ?_
        refine lv_istore (lv' := [(4, .int (-3 : Int32)), (0, .ref (ly 0)), (1, .int a1), (2, .int a2), (3, .int a3)]) hx hb dX12_seen_31 hl (by decide) rfl (fun ls hl => ?_)
        have L_33 : ∀ (K_33 : Int32 → St → Prop) (hk_33 : ∀ (v4_33 : Int32) (S_33 : St) (H : Heap) (locs : List Loc) (ls : Array Slot), K_33 v4_33 S_33 → Hp D (Er kA ly) ly n A s.heap S_33 H locs → lv_has ls 6 [(0, .ref (ly 0)), (1, .int a1), (2, .int a2), (3, .int a3), (4, .int v4_33)] → W p l e (headSpec wsX12_seen { frames := 3, cells := 0, slots := 0, locals := 68 }).room s m [.ref (ly 0), .int a1, .int a2, .int a3].toArray below meth c H locs 0 0 (MQ below (va_Qi Q (Gp D (Er kA ly) ly n A kA) A) [.ref (ly 0), .int a1, .int a2, .int a3].toArray s 0 0 A) (F0 m 133 ls [])) (fu_33 : Nat) (v4_33 : Int32) (S_33 : St) (H : Heap) (locs : List Loc) (ls : Array Slot), wl_X12_seen_33 a1 a2 a3 K_33 fu_33 v4_33 S_33 → Hp D (Er kA ly) ly n A s.heap S_33 H locs → lv_has ls 6 [(0, .ref (ly 0)), (1, .int a1), (2, .int a2), (3, .int a3), (4, .int v4_33)] → W p l e (headSpec wsX12_seen { frames := 3, cells := 0, slots := 0, locals := 68 }).room s m [.ref (ly 0), .int a1, .int a2, .int a3].toArray below meth c H locs 0 0 (MQ below (va_Qi Q (Gp D (Er kA ly) ly n A kA) A) [.ref (ly 0), .int a1, .int a2, .int a3].toArray s 0 0 A) (F0 m 33 ls []) := by
          intro K_33 hk_33 fu_33
          induction fu_33 with
          | zero => intro v4_33 S_33 H locs ls hw hH hl; rw [wl_X12_seen_33] at hw; exact hw.elim
          | succ fu_33 ih_33 =>
            intro v4_33 S_33 H locs ls hw hH hl
            rw [wl_X12_seen_33] at hw
            refine lv_iload hx hb dX12_seen_33 (lv_at hl 4 rfl) ?_
            refine lv_if_ge (tgt := 133) hx hb dX12_seen_35 (by decide) (fun hc11 => ?_) (fun hc11 => ?_)
            · replace hw := hw.1 hc11
              exact hk_33 v4_33 S_33 _ _ ls hw hH (lv_sub hl [0, 1, 2, 3, 4] rfl)
            · replace hw := hw.2 hc11
              refine lv_aload_n hx hb dX12_seen_38 rfl (lv_at hl 0 rfl) ?_
              refine gf_r_2 hx hb hts hiX12 hown hK hn hH lk0 dX12_seen_39 ?_
              refine lv_aload_n hx hb dX12_seen_42 rfl (lv_at hl 0 rfl) ?_
              refine gf_r_3 hx hb hts hiX12 hown hK hn hH lk1 dX12_seen_43 ?_
              refine lv_iconst (v := 0) hx hb dX12_seen_46 (by decide +kernel) ?_
              refine lv_iadd hx hb dX12_seen_47 ?_
              obtain ⟨hi_12, hw⟩ := hw
              refine k_ild hx hb hK hH (hn _ (by decide)) Er_3 hi_12 dX12_seen_48 ?_
              refine lv_bipush (v := 50) hx hb dX12_seen_49 (by decide +kernel) ?_
              refine lv_icmp_ge (tgt := 133) hx hb dX12_seen_51 (by decide) (fun hc13 => ?_) (fun hc13 => ?_)
              · replace hw := hw.1 hc13
                exact hk_33 v4_33 S_33 _ _ ls hw hH (lv_sub hl [0, 1, 2, 3, 4] rfl)
              · replace hw := hw.2 hc13
                refine lv_iconst (v := 0) hx hb dX12_seen_54 (by decide +kernel) ?_
                refine lv_istore (lv' := [(5, .int (0 : Int32)), (0, .ref (ly 0)), (1, .int a1), (2, .int a2), (3, .int a3), (4, .int v4_33)]) hx hb dX12_seen_55 hl (by decide) rfl (fun ls hl => ?_)
                have L_57 : ∀ (K_57 : Int32 → Int32 → St → Prop) (hk_57 : ∀ (v4_57 : Int32) (v5_57 : Int32) (S_57 : St) (H : Heap) (locs : List Loc) (ls : Array Slot), K_57 v4_57 v5_57 S_57 → Hp D (Er kA ly) ly n A s.heap S_57 H locs → lv_has ls 6 [(0, .ref (ly 0)), (1, .int a1), (2, .int a2), (3, .int a3), (4, .int v4_57), (5, .int v5_57)] → W p l e (headSpec wsX12_seen { frames := 3, cells := 0, slots := 0, locals := 68 }).room s m [.ref (ly 0), .int a1, .int a2, .int a3].toArray below meth c H locs 0 0 (MQ below (va_Qi Q (Gp D (Er kA ly) ly n A kA) A) [.ref (ly 0), .int a1, .int a2, .int a3].toArray s 0 0 A) (F0 m 126 ls [])) (fu_57 : Nat) (v4_57 : Int32) (v5_57 : Int32) (S_57 : St) (H : Heap) (locs : List Loc) (ls : Array Slot), wl_X12_seen_57 a1 a2 a3 K_57 fu_57 v4_57 v5_57 S_57 → Hp D (Er kA ly) ly n A s.heap S_57 H locs → lv_has ls 6 [(0, .ref (ly 0)), (1, .int a1), (2, .int a2), (3, .int a3), (4, .int v4_57), (5, .int v5_57)] → W p l e (headSpec wsX12_seen { frames := 3, cells := 0, slots := 0, locals := 68 }).room s m [.ref (ly 0), .int a1, .int a2, .int a3].toArray below meth c H locs 0 0 (MQ below (va_Qi Q (Gp D (Er kA ly) ly n A kA) A) [.ref (ly 0), .int a1, .int a2, .int a3].toArray s 0 0 A) (F0 m 57 ls []) := by
                  intro K_57 hk_57 fu_57
                  induction fu_57 with
                  | zero => intro v4_57 v5_57 S_57 H locs ls hw hH hl; rw [wl_X12_seen_57] at hw; exact hw.elim
                  | succ fu_57 ih_57 =>
                    intro v4_57 v5_57 S_57 H locs ls hw hH hl
                    rw [wl_X12_seen_57] at hw
                    refine lv_iload hx hb dX12_seen_57 (lv_at hl 5 rfl) ?_
                    refine lv_aload_n hx hb dX12_seen_59 rfl (lv_at hl 0 rfl) ?_
                    refine gf_r_2 hx hb hts hiX12 hown hK hn hH lk0 dX12_seen_60 ?_
                    refine lv_aload_n hx hb dX12_seen_63 rfl (lv_at hl 0 rfl) ?_
                    refine gf_r_3 hx hb hts hiX12 hown hK hn hH lk1 dX12_seen_64 ?_
                    refine lv_iconst (v := 1) hx hb dX12_seen_67 (by decide +kernel) ?_
                    refine lv_iadd hx hb dX12_seen_68 ?_
                    obtain ⟨hi_14, hw⟩ := hw
                    refine k_ild hx hb hK hH (hn _ (by decide)) Er_3 hi_14 dX12_seen_69 ?_
                    refine lv_icmp_ge (tgt := 126) hx hb dX12_seen_70 (by decide) (fun hc15 => ?_) (fun hc15 => ?_)
                    · replace hw := hw.1 hc15
                      exact hk_57 v4_57 v5_57 S_57 _ _ ls hw hH (lv_sub hl [0, 1, 2, 3, 4, 5] rfl)
                    · replace hw := hw.2 hc15
                      refine lv_iload hx hb dX12_seen_73 (lv_at hl 4 rfl) ?_
                      refine lv_if_ge (tgt := 126) hx hb dX12_seen_75 (by decide) (fun hc16 => ?_) (fun hc16 => ?_)
                      · replace hw := hw.1 hc16
                        exact hk_57 v4_57 v5_57 S_57 _ _ ls hw hH (lv_sub hl [0, 1, 2, 3, 4, 5] rfl)
                      · replace hw := hw.2 hc16
                        refine lv_aload_n hx hb dX12_seen_78 rfl (lv_at hl 0 rfl) ?_
                        refine lv_iload hx hb dX12_seen_79 (lv_at hl 5 rfl) ?_
                        refine k_afti (va_runV (As := [.int v5_57]) (rest := []) ⟨hx, hb, hml, hown, hts⟩ (c_X12_lastOf l D kA ly n hn A v5_57 S_57 _) (cwV 1 hts gX12_seen_X12_lastOf rfl rfl rfl (by decide +kernel) ⟨(Nat.le_of_ble_eq_true rfl), (Nat.le_of_ble_eq_true rfl)⟩) ⟨k_blind, (k_recv hK hH (hn _ (by decide)) Er_0 rfl), k_pre hK hN hH hw⟩ rfl rfl hl.1 rfl (lv_room (Nat.le_of_ble_eq_true rfl)) dX12_seen_81 ⟨Nat.le_refl _, Nat.le_refl _⟩) hH (fun r18 S17 H locs hw hH => ?_)
                        refine lv_bipush (v := 10) hx hb dX12_seen_84 (by decide +kernel) ?_
                        refine lv_iload_n hx hb dX12_seen_86 rfl (lv_at hl 2 rfl) ?_
                        refine lv_imul hx hb dX12_seen_87 ?_
                        refine lv_iload_n hx hb dX12_seen_88 rfl (lv_at hl 1 rfl) ?_
                        refine lv_iadd hx hb dX12_seen_89 ?_
                        refine lv_icmp_ne (tgt := 116) hx hb dX12_seen_90 (by decide) (fun hc19 => ?_) (fun hc19 => ?_)
                        · replace hw := hw.2 hc19
                          refine lv_bipush (v := -3) hx hb dX12_seen_116 (by decide +kernel) ?_
                          refine lv_istore (lv' := [(4, .int (-3 : Int32)), (0, .ref (ly 0)), (1, .int a1), (2, .int a2), (3, .int a3), (5, .int v5_57)]) hx hb dX12_seen_118 hl (by decide) rfl (fun ls hl => ?_)
                          obtain ⟨t20, et20⟩ : ∃ y : Int32, y = v5_57 + 1 := ⟨_, rfl⟩
                          replace hw := hw t20 et20
                          refine lv_iinc (v := t20) (lv' := [(5, .int t20), (4, .int (-3 : Int32)), (0, .ref (ly 0)), (1, .int a1), (2, .int a2), (3, .int a3)]) hx hb dX12_seen_120 hl (k := 5) rfl (by rw [et20]; rfl) (by decide) rfl (fun ls hl => ?_)
                          refine lv_goto (tgt := 57) hx hb dX12_seen_123 (by decide) ?_
                          exact ih_57 (-3 : Int32) t20 S17 _ _ ls hw hH (lv_sub hl [2, 3, 4, 5, 1, 0] rfl)
                        · replace hw := hw.1 hc19
                          refine lv_iload_n hx hb dX12_seen_93 rfl (lv_at hl 3 rfl) ?_
                          refine lv_if_ne (tgt := 111) hx hb dX12_seen_94 (by decide) (fun hc21 => ?_) (fun hc21 => ?_)
                          · replace hw := hw.2 hc21
                            refine lv_iload hx hb dX12_seen_111 (lv_at hl 5 rfl) ?_
                            refine lv_goto (tgt := 118) hx hb dX12_seen_113 (by decide) ?_
                            refine lv_istore (lv' := [(4, .int v5_57), (0, .ref (ly 0)), (1, .int a1), (2, .int a2), (3, .int a3), (5, .int v5_57)]) hx hb dX12_seen_118 hl (by decide) rfl (fun ls hl => ?_)
                            obtain ⟨t22, et22⟩ : ∃ y : Int32, y = v5_57 + 1 := ⟨_, rfl⟩
                            replace hw := hw t22 et22
                            refine lv_iinc (v := t22) (lv' := [(5, .int t22), (4, .int v5_57), (0, .ref (ly 0)), (1, .int a1), (2, .int a2), (3, .int a3)]) hx hb dX12_seen_120 hl (k := 5) rfl (by rw [et22]; rfl) (by decide) rfl (fun ls hl => ?_)
                            refine lv_goto (tgt := 57) hx hb dX12_seen_123 (by decide) ?_
                            exact ih_57 v5_57 t22 S17 _ _ ls hw hH (lv_sub hl [2, 3, 4, 5, 1, 0] rfl)
                          · replace hw := hw.1 hc21
                            refine lv_aload_n hx hb dX12_seen_97 rfl (lv_at hl 0 rfl) ?_
                            refine gf_r_2 hx hb hts hiX12 hown hK hn hH lk0 dX12_seen_98 ?_
                            refine lv_aload_n hx hb dX12_seen_101 rfl (lv_at hl 0 rfl) ?_
                            refine gf_r_3 hx hb hts hiX12 hown hK hn hH lk1 dX12_seen_102 ?_
                            refine lv_iconst (v := 0) hx hb dX12_seen_105 (by decide +kernel) ?_
                            refine lv_iadd hx hb dX12_seen_106 ?_
                            obtain ⟨hi_23, hw⟩ := hw
                            refine k_ild hx hb hK hH (hn _ (by decide)) Er_3 hi_23 dX12_seen_107 ?_
                            refine lv_goto (tgt := 118) hx hb dX12_seen_108 (by decide) ?_
                            refine lv_topi (fun t24 et24 => ?_)
                            replace hw := hw t24 et24
                            refine lv_istore (lv' := [(4, .int t24), (0, .ref (ly 0)), (1, .int a1), (2, .int a2), (3, .int a3), (5, .int v5_57)]) hx hb dX12_seen_118 hl (by decide) rfl (fun ls hl => ?_)
                            obtain ⟨t25, et25⟩ : ∃ y : Int32, y = v5_57 + 1 := ⟨_, rfl⟩
                            replace hw := hw t25 et25
                            refine lv_iinc (v := t25) (lv' := [(5, .int t25), (4, .int t24), (0, .ref (ly 0)), (1, .int a1), (2, .int a2), (3, .int a3)]) hx hb dX12_seen_120 hl (k := 5) rfl (by rw [et25]; rfl) (by decide) rfl (fun ls hl => ?_)
                            refine lv_goto (tgt := 57) hx hb dX12_seen_123 (by decide) ?_
                            exact ih_57 t24 t25 S17 _ _ ls hw hH (lv_sub hl [2, 3, 4, 5, 1, 0] rfl)
                obtain ⟨m_57, hw⟩ := hw
                refine L_57 _ (fun e4_26 e5_27 S28 H locs ls hw hH hl => ?_) m_57 v4_33 (0 : Int32) S_33 _ _ ls hw hH (lv_sub hl [1, 2, 3, 4, 5, 0] rfl)
                refine lv_aload_n hx hb dX12_seen_126 rfl (lv_at hl 0 rfl) ?_
                refine k_aftv (va_runV (As := []) (rest := []) ⟨hx, hb, hml, hown, hts⟩ (c_X12_dayGoes l D kA ly n hn A S28 _) (cwV 0 hts gX12_seen_X12_dayGoes rfl rfl rfl (by decide +kernel) ⟨(Nat.le_of_ble_eq_true rfl), (Nat.le_of_ble_eq_true rfl)⟩) ⟨k_blind, (k_recv hK hH (hn _ (by decide)) Er_0 rfl), k_pre hK hN hH hw⟩ rfl rfl hl.1 rfl (lv_room (Nat.le_of_ble_eq_true rfl)) dX12_seen_127 ⟨Nat.le_refl _, Nat.le_refl _⟩) hH (fun S29 H locs hw hH => ?_)
                refine lv_goto (tgt := 33) hx hb dX12_seen_130 (by decide) ?_
                exact ih_33 e4_26 S29 _ _ ls hw hH (lv_sub hl [0, 1, 2, 3, 4] rfl)
        obtain ⟨m_33, hw⟩ := hw
        refine L_33 _ (fun e4_30 S31 H locs ls hw hH hl => ?_) m_33 (-3 : Int32) S10 _ _ ls hw hH (lv_sub hl [1, 2, 3, 4, 0] rfl)
        refine lv_aload_n hx hb dX12_seen_133 rfl (lv_at hl 0 rfl) ?_
        refine lv_iconst (v := 0) hx hb dX12_seen_134 (by decide +kernel) ?_
        refine pf_r_3 hx hb hts hiX12 hown hK hn hH lk1 dX12_seen_135 (fun S32 H locs eS32 hH => ?_)
        replace hw := hw S32 eS32
        refine lv_iload hx hb dX12_seen_138 (lv_at hl 4 rfl) ?_
        exact k_iret hx hb hr hlocks hK hN hH hw dX12_seen_140
      · replace hw := hw.1 hc9
        refine lv_iconst (v := -1) hx hb dX12_seen_23 (by decide +kernel) ?_
        exact k_iret hx hb hr hlocks hK hN hH hw dX12_seen_24
def wj_X12_worthOf_76 (a1 : Int32) (v5_19 : Int32) (v6_19 : Int32) (B_19 : Int32 → Int32 → Int32 → St → Prop) (q0_76 : Int32) (q1_76 : Int32) (q3_76 : Int32) (q4_76 : Int32) (S_76 : St) : Prop := (vp_in (q1_76 + q0_76) 12 ∧ (∀ t11 : Int32, t11 = (q4_76 + (q3_76 * (gA S_76 2 (q1_76 + q0_76).toNatClampNeg))) → wp_X12_moves a1 v5_19 S_76 (fun S12 => (∀ t13 : Int32, t13 = v5_19 + 1 → (∀ t14 : Int32, t14 = v6_19 + 1 → B_19 t11 t13 t14 S12)))))
def wl_X12_worthOf_19 (a1 : Int32) (a2 : Int32) (a3 : Int32) (K_19 : Int32 → Int32 → Int32 → St → Prop) : Nat → Int32 → Int32 → Int32 → St → Prop
  | 0, _, _, _, _ => False
  | fu_19 + 1, v4_19, v5_19, v6_19, S_19 => ((a3 ≤ v6_19 → K_19 v4_19 v5_19 v6_19 S_19) ∧ (¬ a3 ≤ v6_19 → (((50 : Int32) ≤ v5_19 → K_19 v4_19 v5_19 v6_19 S_19) ∧ (¬ (50 : Int32) ≤ v5_19 → wp_X12_lastOf a1 S_19 (fun r6 S5 => ((0 ≤ r6 → wp_X12_shown a1 S5 (fun r9 S8 => ((0 ≤ r6 → wj_X12_worthOf_76 a1 v5_19 v6_19 (fun b0 b1 b2 b => wl_X12_worthOf_19 a1 a2 a3 K_19 fu_19 b0 b1 b2 b) (r6 - r6 / (10 : Int32) * (10 : Int32)) ((4 : Int32) * a2) r9 v4_19 S8) ∧ (¬ 0 ≤ r6 → wj_X12_worthOf_76 a1 v5_19 v6_19 (fun b0 b1 b2 b => wl_X12_worthOf_19 a1 a2 a3 K_19 fu_19 b0 b1 b2 b) (0 : Int32) ((4 : Int32) * a2) r9 v4_19 S8)))) ∧ (¬ 0 ≤ r6 → (∀ t16 : Int32, t16 = (v4_19 + (0 : Int32)) → wp_X12_moves a1 v5_19 S5 (fun S17 => (∀ t18 : Int32, t18 = v5_19 + 1 → (∀ t19 : Int32, t19 = v6_19 + 1 → wl_X12_worthOf_19 a1 a2 a3 K_19 fu_19 t16 t18 t19 S17)))))))))))
def wp_X12_worthOf (a1 : Int32) (a2 : Int32) (a3 : Int32) (S : St) (Q : Int32 → St → Prop) : Prop := (vp_in ((gI S 0 3) + (0 : Int32)) 232 ∧ (∀ t2 : Int32, t2 = (gA S 3 ((gI S 0 3) + (0 : Int32)).toNatClampNeg) → (∃ m_19 : Nat, wl_X12_worthOf_19 a1 a2 a3 (fun e4_20 e5_21 e6_22 S23 => Q e4_20 S23) m_19 (0 : Int32) t2 (0 : Int32) S)))
set_option maxHeartbeats 4000000 in
set_option maxRecDepth 100000 in
theorem c_X12_worthOf (l : Launch) (D : va_G) (kA : Nat → ClassId) (ly : Nat → Nat) (n : List Nat) (hn : ∀ c, c < 20 → c ∈ n) (A : Nat → Prop) (a1 : Int32) (a2 : Int32) (a3 : Int32) : Ci l yX12_worthOf wsX12_worthOf 3 66 (Gp D (Er kA ly) ly n A kA) A [.ref (ly 0), .int a1, .int a2, .int a3] (wp_X12_worthOf a1 a2 a3) := by
  intro S Q
  refine Met.ofW (cc := cX12_worthOf) (maxL := 8) (ret := (some .int)) (by decide) rfl ?_
  intro p e s m args below meth c s₁ B hml hv
  obtain ⟨rfl, ⟨hP, hD, hK, hN⟩, hw⟩ := hv
  have hx := B.exec
  have hb := B.bytes
  have hr := B.returns
  have hts := atoms_spec (ws := wsX12_worthOf) B.pre
  have hown : s.vm.findClass RX12 = some m.cls := findClass_of_methodNamed B.named
  have hlocks := B.notSynchronized
  have hH : Hp D (Er kA ly) ly n A s.heap S s.heap [] := ⟨hP, hD, va_S.rf⟩
  have hiX12 : ∀ w ∈ u_ws RX12 TX12 39, w ∈ wsX12_worthOf := by decide +kernel
  have lk0 := hts (.fieldLink RX12 16 "SlowPanesModel" "row" "[I") (by decide +kernel)
  have lk1 := hts (.fieldLink RX12 76 "SlowPanesModel" "at" "I") (by decide +kernel)
  have lk2 := hts (.fieldLink RX12 13 "SlowPanesModel" "loves" "[I") (by decide +kernel)
  have hl := lv_entry ([.ref (ly 0), .int a1, .int a2, .int a3]) (n := 8) (Nat.le_of_ble_eq_true rfl)
  rw [lg_entry_eq]
  generalize (lg_sl ([.ref (ly 0), .int a1, .int a2, .int a3]) ++ List.replicate (8 - (lg_sl ([.ref (ly 0), .int a1, .int a2, .int a3])).length) Slot.unset).toArray = ls at hl ⊢
  have hl : lv_has ls 8 [(0, .ref (ly 0)), (1, .int a1), (2, .int a2), (3, .int a3)] := hl
  rw [wp_X12_worthOf] at hw
  refine lv_iconst (v := 0) hx hb dX12_worthOf_0 (by decide +kernel) ?_
  refine lv_istore (lv' := [(4, .int (0 : Int32)), (0, .ref (ly 0)), (1, .int a1), (2, .int a2), (3, .int a3)]) hx hb dX12_worthOf_1 hl (by decide) rfl (fun ls hl => ?_)
  refine lv_aload_n hx hb dX12_worthOf_3 rfl (lv_at hl 1 rfl) ?_
  refine gf_r_2 hx hb hts hiX12 hown hK hn hH lk0 dX12_worthOf_4 ?_
  refine lv_aload_n hx hb dX12_worthOf_7 rfl (lv_at hl 1 rfl) ?_
  refine gf_r_3 hx hb hts hiX12 hown hK hn hH lk1 dX12_worthOf_8 ?_
  refine lv_iconst (v := 0) hx hb dX12_worthOf_11 (by decide +kernel) ?_
  refine lv_iadd hx hb dX12_worthOf_12 ?_
  obtain ⟨hi_1, hw⟩ := hw
  refine k_ild hx hb hK hH (hn _ (by decide)) Er_3 hi_1 dX12_worthOf_13 ?_
  refine lv_topi (fun t2 et2 => ?_)
  replace hw := hw t2 et2
  refine lv_istore (lv' := [(5, .int t2), (4, .int (0 : Int32)), (0, .ref (ly 0)), (1, .int a1), (2, .int a2), (3, .int a3)]) hx hb dX12_worthOf_14 hl (by decide) rfl (fun ls hl => ?_)
  refine lv_iconst (v := 0) hx hb dX12_worthOf_16 (by decide +kernel) ?_
  refine lv_istore (lv' := [(6, .int (0 : Int32)), (5, .int t2), (4, .int (0 : Int32)), (0, .ref (ly 0)), (1, .int a1), (2, .int a2), (3, .int a3)]) hx hb dX12_worthOf_17 hl (by decide) rfl (fun ls hl => ?_)
  have L_19 : ∀ (K_19 : Int32 → Int32 → Int32 → St → Prop) (hk_19 : ∀ (v4_19 : Int32) (v5_19 : Int32) (v6_19 : Int32) (S_19 : St) (H : Heap) (locs : List Loc) (ls : Array Slot), K_19 v4_19 v5_19 v6_19 S_19 → Hp D (Er kA ly) ly n A s.heap S_19 H locs → lv_has ls 8 [(0, .ref (ly 0)), (1, .int a1), (2, .int a2), (3, .int a3), (4, .int v4_19), (5, .int v5_19), (6, .int v6_19)] → W p l e (headSpec wsX12_worthOf { frames := 3, cells := 0, slots := 0, locals := 66 }).room s m [.ref (ly 0), .int a1, .int a2, .int a3].toArray below meth c H locs 0 0 (MQ below (va_Qi Q (Gp D (Er kA ly) ly n A kA) A) [.ref (ly 0), .int a1, .int a2, .int a3].toArray s 0 0 A) (F0 m 98 ls [])) (fu_19 : Nat) (v4_19 : Int32) (v5_19 : Int32) (v6_19 : Int32) (S_19 : St) (H : Heap) (locs : List Loc) (ls : Array Slot), wl_X12_worthOf_19 a1 a2 a3 K_19 fu_19 v4_19 v5_19 v6_19 S_19 → Hp D (Er kA ly) ly n A s.heap S_19 H locs → lv_has ls 8 [(0, .ref (ly 0)), (1, .int a1), (2, .int a2), (3, .int a3), (4, .int v4_19), (5, .int v5_19), (6, .int v6_19)] → W p l e (headSpec wsX12_worthOf { frames := 3, cells := 0, slots := 0, locals := 66 }).room s m [.ref (ly 0), .int a1, .int a2, .int a3].toArray below meth c H locs 0 0 (MQ below (va_Qi Q (Gp D (Er kA ly) ly n A kA) A) [.ref (ly 0), .int a1, .int a2, .int a3].toArray s 0 0 A) (F0 m 19 ls []) := by
    intro K_19 hk_19 fu_19
    induction fu_19 with
    | zero => intro v4_19 v5_19 v6_19 S_19 H locs ls hw hH hl; rw [wl_X12_worthOf_19] at hw; exact hw.elim
    | succ fu_19 ih_19 =>
      intro v4_19 v5_19 v6_19 S_19 H locs ls hw hH hl
      rw [wl_X12_worthOf_19] at hw
      refine lv_iload hx hb dX12_worthOf_19 (lv_at hl 6 rfl) ?_
      refine lv_iload_n hx hb dX12_worthOf_21 rfl (lv_at hl 3 rfl) ?_
      refine lv_icmp_ge (tgt := 98) hx hb dX12_worthOf_22 (by decide) (fun hc3 => ?_) (fun hc3 => ?_)
      · replace hw := hw.1 hc3
        exact hk_19 v4_19 v5_19 v6_19 S_19 _ _ ls hw hH (lv_sub hl [0, 1, 2, 3, 4, 5, 6] rfl)
      · replace hw := hw.2 hc3
        refine lv_iload hx hb dX12_worthOf_25 (lv_at hl 5 rfl) ?_
        refine lv_bipush (v := 50) hx hb dX12_worthOf_27 (by decide +kernel) ?_
        refine lv_icmp_ge (tgt := 98) hx hb dX12_worthOf_29 (by decide) (fun hc4 => ?_) (fun hc4 => ?_)
        · replace hw := hw.1 hc4
          exact hk_19 v4_19 v5_19 v6_19 S_19 _ _ ls hw hH (lv_sub hl [0, 1, 2, 3, 4, 5, 6] rfl)
        · replace hw := hw.2 hc4
          refine lv_aload_n hx hb dX12_worthOf_32 rfl (lv_at hl 0 rfl) ?_
          refine lv_iload_n hx hb dX12_worthOf_33 rfl (lv_at hl 1 rfl) ?_
          refine k_afti (va_runV (As := [.int a1]) (rest := []) ⟨hx, hb, hml, hown, hts⟩ (c_X12_lastOf l D kA ly n hn A a1 S_19 _) (cwV 1 hts gX12_worthOf_X12_lastOf rfl rfl rfl (by decide +kernel) ⟨(Nat.le_of_ble_eq_true rfl), (Nat.le_of_ble_eq_true rfl)⟩) ⟨k_blind, (k_recv hK hH (hn _ (by decide)) Er_0 rfl), k_pre hK hN hH hw⟩ rfl rfl hl.1 rfl (lv_room (Nat.le_of_ble_eq_true rfl)) dX12_worthOf_34 ⟨Nat.le_refl _, Nat.le_refl _⟩) hH (fun r6 S5 H locs hw hH => ?_)
          refine lv_istore (lv' := [(7, .int r6), (0, .ref (ly 0)), (1, .int a1), (2, .int a2), (3, .int a3), (4, .int v4_19), (5, .int v5_19), (6, .int v6_19)]) hx hb dX12_worthOf_37 hl (by decide) rfl (fun ls hl => ?_)
          refine lv_iload hx hb dX12_worthOf_39 (lv_at hl 5 rfl) ?_
          refine lv_iload hx hb dX12_worthOf_41 (lv_at hl 0 rfl) ?_
          refine lv_if_ge (tgt := 50) hx hb dX12_worthOf_43 (by decide) (fun hc7 => ?_) (fun hc7 => ?_)
          · replace hw := hw.1 hc7
            refine lv_aload_n hx hb dX12_worthOf_50 rfl (lv_at hl 1 rfl) ?_
            refine lv_iload_n hx hb dX12_worthOf_51 rfl (lv_at hl 2 rfl) ?_
            refine k_afti (va_runV (As := [.int a1]) (rest := [.int v4_19]) ⟨hx, hb, hml, hown, hts⟩ (c_X12_shown l D kA ly n hn A a1 S5 _) (cwV 1 hts gX12_worthOf_X12_shown rfl rfl rfl (by decide +kernel) ⟨(Nat.le_of_ble_eq_true rfl), (Nat.le_of_ble_eq_true rfl)⟩) ⟨k_blind, (k_recv hK hH (hn _ (by decide)) Er_0 rfl), k_pre hK hN hH hw⟩ rfl rfl hl.1 rfl (lv_room (Nat.le_of_ble_eq_true rfl)) dX12_worthOf_52 ⟨Nat.le_refl _, Nat.le_refl _⟩) hH (fun r9 S8 H locs hw hH => ?_)
            refine lv_aload_n hx hb dX12_worthOf_55 rfl (lv_at hl 1 rfl) ?_
            refine gf_r_1 hx hb hts hiX12 hown hK hn hH lk2 dX12_worthOf_56 ?_
            refine lv_iconst (v := 4) hx hb dX12_worthOf_59 (by decide +kernel) ?_
            refine lv_iload_n hx hb dX12_worthOf_60 rfl (lv_at hl 3 rfl) ?_
            refine lv_imul hx hb dX12_worthOf_61 ?_
            refine lv_iload hx hb dX12_worthOf_62 (lv_at hl 0 rfl) ?_
            have J_76 : ∀ (q0_76 : Int32) (q1_76 : Int32) (q3_76 : Int32) (q4_76 : Int32) (S_76 : St) (H : Heap) (locs : List Loc) (ls : Array Slot), wj_X12_worthOf_76 a1 v5_19 v6_19 (fun b0 b1 b2 b => wl_X12_worthOf_19 a1 a2 a3 K_19 fu_19 b0 b1 b2 b) q0_76 q1_76 q3_76 q4_76 S_76 → Hp D (Er kA ly) ly n A s.heap S_76 H locs → lv_has ls 8 [(0, .ref (ly 0)), (1, .int a1), (2, .int a2), (3, .int a3), (4, .int v4_19), (5, .int v5_19), (6, .int v6_19), (7, .int r6)] → W p l e (headSpec wsX12_worthOf { frames := 3, cells := 0, slots := 0, locals := 66 }).room s m [.ref (ly 0), .int a1, .int a2, .int a3].toArray below meth c H locs 0 0 (MQ below (va_Qi Q (Gp D (Er kA ly) ly n A kA) A) [.ref (ly 0), .int a1, .int a2, .int a3].toArray s 0 0 A) (F0 m 76 ls [.int q0_76, .int q1_76, .ref (ly 2), .int q3_76, .int q4_76]) := by
              intro q0_76 q1_76 q3_76 q4_76 S_76 H locs ls hw hH hl
              rw [wj_X12_worthOf_76] at hw
              refine lv_iadd hx hb dX12_worthOf_76 ?_
              obtain ⟨hi_10, hw⟩ := hw
              refine k_ild hx hb hK hH (hn _ (by decide)) Er_2 hi_10 dX12_worthOf_77 ?_
              refine lv_imul hx hb dX12_worthOf_78 ?_
              refine lv_iadd hx hb dX12_worthOf_79 ?_
              refine lv_topi (fun t11 et11 => ?_)
              replace hw := hw t11 et11
              refine lv_istore (lv' := [(4, .int t11), (0, .ref (ly 0)), (1, .int a1), (2, .int a2), (3, .int a3), (5, .int v5_19), (6, .int v6_19), (7, .int r6)]) hx hb dX12_worthOf_80 hl (by decide) rfl (fun ls hl => ?_)
              refine lv_aload_n hx hb dX12_worthOf_82 rfl (lv_at hl 1 rfl) ?_
              refine lv_iload_n hx hb dX12_worthOf_83 rfl (lv_at hl 2 rfl) ?_
              refine lv_iload hx hb dX12_worthOf_84 (lv_at hl 5 rfl) ?_
              refine k_aftv (va_runV (As := [.int a1, .int v5_19]) (rest := []) ⟨hx, hb, hml, hown, hts⟩ (c_X12_moves l D kA ly n hn A a1 v5_19 S_76 _) (cwV 2 hts gX12_worthOf_X12_moves rfl rfl rfl (by decide +kernel) ⟨(Nat.le_of_ble_eq_true rfl), (Nat.le_of_ble_eq_true rfl)⟩) ⟨k_blind, (k_recv hK hH (hn _ (by decide)) Er_0 rfl), k_pre hK hN hH hw⟩ rfl rfl hl.1 rfl (lv_room (Nat.le_of_ble_eq_true rfl)) dX12_worthOf_86 ⟨Nat.le_refl _, Nat.le_refl _⟩) hH (fun S12 H locs hw hH => ?_)
              obtain ⟨t13, et13⟩ : ∃ y : Int32, y = v5_19 + 1 := ⟨_, rfl⟩
              replace hw := hw t13 et13
              refine lv_iinc (v := t13) (lv' := [(5, .int t13), (4, .int t11), (0, .ref (ly 0)), (1, .int a1), (2, .int a2), (3, .int a3), (6, .int v6_19), (7, .int r6)]) hx hb dX12_worthOf_89 hl (k := 5) rfl (by rw [et13]; rfl) (by decide) rfl (fun ls hl => ?_)
              obtain ⟨t14, et14⟩ : ∃ y : Int32, y = v6_19 + 1 := ⟨_, rfl⟩
              replace hw := hw t14 et14
              refine lv_iinc (v := t14) (lv' := [(6, .int t14), (5, .int t13), (4, .int t11), (0, .ref (ly 0)), (1, .int a1), (2, .int a2), (3, .int a3), (7, .int r6)]) hx hb dX12_worthOf_92 hl (k := 6) rfl (by rw [et14]; rfl) (by decide) rfl (fun ls hl => ?_)
              refine lv_goto (tgt := 19) hx hb dX12_worthOf_95 (by decide) ?_
              exact ih_19 t11 t13 t14 S12 _ _ ls hw hH (lv_sub hl [3, 4, 5, 6, 2, 1, 0] rfl)
            refine lv_if_ge (tgt := 71) hx hb dX12_worthOf_64 (by decide) (fun hc15 => ?_) (fun hc15 => ?_)
            · replace hw := hw.1 hc15
              refine lv_iload hx hb dX12_worthOf_71 (lv_at hl 0 rfl) ?_
              refine lv_bipush (v := 10) hx hb dX12_worthOf_73 (by decide +kernel) ?_
              refine lv_irem hx hb dX12_worthOf_75 (by decide) ?_
              exact J_76 (r6 - r6 / (10 : Int32) * (10 : Int32)) ((4 : Int32) * a2) r9 v4_19 S8 _ _ ls hw hH (lv_sub hl [1, 2, 3, 4, 5, 6, 7, 0] rfl)
            · replace hw := hw.2 hc15
              refine lv_iconst (v := 0) hx hb dX12_worthOf_67 (by decide +kernel) ?_
              refine lv_goto (tgt := 76) hx hb dX12_worthOf_68 (by decide) ?_
              exact J_76 (0 : Int32) ((4 : Int32) * a2) r9 v4_19 S8 _ _ ls hw hH (lv_sub hl [1, 2, 3, 4, 5, 6, 7, 0] rfl)
          · replace hw := hw.2 hc7
            refine lv_iconst (v := 0) hx hb dX12_worthOf_46 (by decide +kernel) ?_
            refine lv_goto (tgt := 79) hx hb dX12_worthOf_47 (by decide) ?_
            refine lv_iadd hx hb dX12_worthOf_79 ?_
            refine lv_topi (fun t16 et16 => ?_)
            replace hw := hw t16 et16
            refine lv_istore (lv' := [(4, .int t16), (7, .int r6), (0, .ref (ly 0)), (1, .int a1), (2, .int a2), (3, .int a3), (5, .int v5_19), (6, .int v6_19)]) hx hb dX12_worthOf_80 hl (by decide) rfl (fun ls hl => ?_)
            refine lv_aload_n hx hb dX12_worthOf_82 rfl (lv_at hl 2 rfl) ?_
            refine lv_iload_n hx hb dX12_worthOf_83 rfl (lv_at hl 3 rfl) ?_
            refine lv_iload hx hb dX12_worthOf_84 (lv_at hl 6 rfl) ?_
            refine k_aftv (va_runV (As := [.int a1, .int v5_19]) (rest := []) ⟨hx, hb, hml, hown, hts⟩ (c_X12_moves l D kA ly n hn A a1 v5_19 S5 _) (cwV 2 hts gX12_worthOf_X12_moves rfl rfl rfl (by decide +kernel) ⟨(Nat.le_of_ble_eq_true rfl), (Nat.le_of_ble_eq_true rfl)⟩) ⟨k_blind, (k_recv hK hH (hn _ (by decide)) Er_0 rfl), k_pre hK hN hH hw⟩ rfl rfl hl.1 rfl (lv_room (Nat.le_of_ble_eq_true rfl)) dX12_worthOf_86 ⟨Nat.le_refl _, Nat.le_refl _⟩) hH (fun S17 H locs hw hH => ?_)
            obtain ⟨t18, et18⟩ : ∃ y : Int32, y = v5_19 + 1 := ⟨_, rfl⟩
            replace hw := hw t18 et18
            refine lv_iinc (v := t18) (lv' := [(5, .int t18), (4, .int t16), (7, .int r6), (0, .ref (ly 0)), (1, .int a1), (2, .int a2), (3, .int a3), (6, .int v6_19)]) hx hb dX12_worthOf_89 hl (k := 6) rfl (by rw [et18]; rfl) (by decide) rfl (fun ls hl => ?_)
            obtain ⟨t19, et19⟩ : ∃ y : Int32, y = v6_19 + 1 := ⟨_, rfl⟩
            replace hw := hw t19 et19
            refine lv_iinc (v := t19) (lv' := [(6, .int t19), (5, .int t18), (4, .int t16), (7, .int r6), (0, .ref (ly 0)), (1, .int a1), (2, .int a2), (3, .int a3)]) hx hb dX12_worthOf_92 hl (k := 7) rfl (by rw [et19]; rfl) (by decide) rfl (fun ls hl => ?_)
            refine lv_goto (tgt := 19) hx hb dX12_worthOf_95 (by decide) ?_
            exact ih_19 t16 t18 t19 S17 _ _ ls hw hH (lv_sub hl [4, 5, 6, 7, 2, 1, 0] rfl)
  obtain ⟨m_19, hw⟩ := hw
  refine L_19 _ (fun e4_20 e5_21 e6_22 S23 H locs ls hw hH hl => ?_) m_19 (0 : Int32) t2 (0 : Int32) S _ _ ls hw hH (lv_sub hl [3, 4, 5, 6, 2, 1, 0] rfl)
  refine lv_iload hx hb dX12_worthOf_98 (lv_at hl 4 rfl) ?_
  exact k_iret hx hb hr hlocks hK hN hH hw dX12_worthOf_100
def wp_X12_worth (a1 : Int32) (a2 : Int32) (a3 : Int32) (S : St) (Q : Int32 → St → Prop) : Prop := wp_X12_isPane a1 S (fun r2 S1 => ((r2 = 0 → Q (-1 : Int32) S1) ∧ (¬ r2 = 0 → wp_X12_isLooker a2 S1 (fun r5 S4 => ((r5 = 0 → Q (-1 : Int32) S4) ∧ (¬ r5 = 0 → wp_X12_isLong a3 S4 (fun r8 S7 => ((r8 = 0 → Q (-1 : Int32) S7) ∧ (¬ r8 = 0 → wp_X12_lends S7 (fun S10 => wp_X12_worthOf a1 a2 a3 S10 (fun r12 S11 => (∀ S13 : St, S13 = sI S11 0 3 (0 : Int32) → Q r12 S13))))))))))))
set_option maxHeartbeats 4000000 in
set_option maxRecDepth 100000 in
theorem c_X12_worth (l : Launch) (D : va_G) (kA : Nat → ClassId) (ly : Nat → Nat) (n : List Nat) (hn : ∀ c, c < 20 → c ∈ n) (A : Nat → Prop) (a1 : Int32) (a2 : Int32) (a3 : Int32) : Ci l yX12_worth wsX12_worth 4 93 (Gp D (Er kA ly) ly n A kA) A [.ref (ly 0), .int a1, .int a2, .int a3] (wp_X12_worth a1 a2 a3) := by
  intro S Q
  refine Met.ofW (cc := cX12_worth) (maxL := 5) (ret := (some .int)) (by decide) rfl ?_
  intro p e s m args below meth c s₁ B hml hv
  obtain ⟨rfl, ⟨hP, hD, hK, hN⟩, hw⟩ := hv
  have hx := B.exec
  have hb := B.bytes
  have hr := B.returns
  have hts := atoms_spec (ws := wsX12_worth) B.pre
  have hown : s.vm.findClass RX12 = some m.cls := findClass_of_methodNamed B.named
  have hlocks := B.notSynchronized
  have hH : Hp D (Er kA ly) ly n A s.heap S s.heap [] := ⟨hP, hD, va_S.rf⟩
  have hiX12 : ∀ w ∈ u_ws RX12 TX12 39, w ∈ wsX12_worth := by decide +kernel
  have lk0 := hts (.fieldLink RX12 76 "SlowPanesModel" "at" "I") (by decide +kernel)
  have hl := lv_entry ([.ref (ly 0), .int a1, .int a2, .int a3]) (n := 5) (Nat.le_of_ble_eq_true rfl)
  rw [lg_entry_eq]
  generalize (lg_sl ([.ref (ly 0), .int a1, .int a2, .int a3]) ++ List.replicate (5 - (lg_sl ([.ref (ly 0), .int a1, .int a2, .int a3])).length) Slot.unset).toArray = ls at hl ⊢
  have hl : lv_has ls 5 [(0, .ref (ly 0)), (1, .int a1), (2, .int a2), (3, .int a3)] := hl
  rw [wp_X12_worth] at hw
  refine lv_aload_n hx hb dX12_worth_0 rfl (lv_at hl 0 rfl) ?_
  refine lv_iload_n hx hb dX12_worth_1 rfl (lv_at hl 1 rfl) ?_
  refine k_afti (va_runV (As := [.int a1]) (rest := []) ⟨hx, hb, hml, hown, hts⟩ (c_X12_isPane l D kA ly n hn A a1 S _) (cwV 1 hts gX12_worth_X12_isPane rfl rfl rfl (by decide +kernel) ⟨(Nat.le_of_ble_eq_true rfl), (Nat.le_of_ble_eq_true rfl)⟩) ⟨k_blind, (k_recv hK hH (hn _ (by decide)) Er_0 rfl), k_pre hK hN hH hw⟩ rfl rfl hl.1 rfl (lv_room (Nat.le_of_ble_eq_true rfl)) dX12_worth_2 ⟨Nat.le_refl _, Nat.le_refl _⟩) hH (fun r2 S1 H locs hw hH => ?_)
  refine lv_if_eq (tgt := 22) hx hb dX12_worth_5 (by decide) (fun hc3 => ?_) (fun hc3 => ?_)
  · replace hw := hw.1 hc3
    refine lv_iconst (v := -1) hx hb dX12_worth_22 (by decide +kernel) ?_
    exact k_iret hx hb hr hlocks hK hN hH hw dX12_worth_23
  · replace hw := hw.2 hc3
    refine lv_iload_n hx hb dX12_worth_8 rfl (lv_at hl 2 rfl) ?_
    refine k_afti (va_runS (As := [.int a2]) (rest := []) ⟨hx, hb, hml, hown, hts⟩ (c_X12_isLooker l D kA ly n hn A a2 S1 _) (va_cwS 1 hts gX12_worth_X12_isLooker rfl rfl rfl (by decide +kernel) ⟨(Nat.le_of_ble_eq_true rfl), (Nat.le_of_ble_eq_true rfl)⟩) ⟨k_blind, k_pre hK hN hH hw⟩ rfl rfl hl.1 rfl (lv_room (Nat.le_of_ble_eq_true rfl)) dX12_worth_9 ⟨Nat.le_refl _, Nat.le_refl _⟩) hH (fun r5 S4 H locs hw hH => ?_)
    refine lv_if_eq (tgt := 22) hx hb dX12_worth_12 (by decide) (fun hc6 => ?_) (fun hc6 => ?_)
    · replace hw := hw.1 hc6
      refine lv_iconst (v := -1) hx hb dX12_worth_22 (by decide +kernel) ?_
      exact k_iret hx hb hr hlocks hK hN hH hw dX12_worth_23
    · replace hw := hw.2 hc6
      refine lv_iload_n hx hb dX12_worth_15 rfl (lv_at hl 3 rfl) ?_
      refine k_afti (va_runS (As := [.int a3]) (rest := []) ⟨hx, hb, hml, hown, hts⟩ (c_X12_isLong l D kA ly n hn A a3 S4 _) (va_cwS 1 hts gX12_worth_X12_isLong rfl rfl rfl (by decide +kernel) ⟨(Nat.le_of_ble_eq_true rfl), (Nat.le_of_ble_eq_true rfl)⟩) ⟨k_blind, k_pre hK hN hH hw⟩ rfl rfl hl.1 rfl (lv_room (Nat.le_of_ble_eq_true rfl)) dX12_worth_16 ⟨Nat.le_refl _, Nat.le_refl _⟩) hH (fun r8 S7 H locs hw hH => ?_)
      refine lv_if_ne (tgt := 24) hx hb dX12_worth_19 (by decide) (fun hc9 => ?_) (fun hc9 => ?_)
      · replace hw := hw.2 hc9
        refine lv_aload_n hx hb dX12_worth_24 rfl (lv_at hl 0 rfl) ?_
        refine k_aftv (va_runV (As := []) (rest := []) ⟨hx, hb, hml, hown, hts⟩ (c_X12_lends l D kA ly n hn A S7 _) (cwV 0 hts gX12_worth_X12_lends rfl rfl rfl (by decide +kernel) ⟨(Nat.le_of_ble_eq_true rfl), (Nat.le_of_ble_eq_true rfl)⟩) ⟨k_blind, (k_recv hK hH (hn _ (by decide)) Er_0 rfl), k_pre hK hN hH hw⟩ rfl rfl hl.1 rfl (lv_room (Nat.le_of_ble_eq_true rfl)) dX12_worth_25 ⟨Nat.le_refl _, Nat.le_refl _⟩) hH (fun S10 H locs hw hH => ?_)
        refine lv_aload_n hx hb dX12_worth_28 rfl (lv_at hl 0 rfl) ?_
        refine lv_iload_n hx hb dX12_worth_29 rfl (lv_at hl 1 rfl) ?_
        refine lv_iload_n hx hb dX12_worth_30 rfl (lv_at hl 2 rfl) ?_
        refine lv_iload_n hx hb dX12_worth_31 rfl (lv_at hl 3 rfl) ?_
        refine k_afti (va_runV (As := [.int a1, .int a2, .int a3]) (rest := []) ⟨hx, hb, hml, hown, hts⟩ (c_X12_worthOf l D kA ly n hn A a1 a2 a3 S10 _) (cwV 3 hts gX12_worth_X12_worthOf rfl rfl rfl (by decide +kernel) ⟨(Nat.le_of_ble_eq_true rfl), (Nat.le_of_ble_eq_true rfl)⟩) ⟨k_blind, (k_recv hK hH (hn _ (by decide)) Er_0 rfl), k_pre hK hN hH hw⟩ rfl rfl hl.1 rfl (lv_room (Nat.le_of_ble_eq_true rfl)) dX12_worth_32 ⟨Nat.le_refl _, Nat.le_refl _⟩) hH (fun r12 S11 H locs hw hH => ?_)
        refine lv_istore (lv' := [(4, .int r12), (0, .ref (ly 0)), (1, .int a1), (2, .int a2), (3, .int a3)]) hx hb dX12_worth_35 hl (by decide) rfl (fun ls hl => ?_)
        refine lv_aload_n hx hb dX12_worth_37 rfl (lv_at hl 1 rfl) ?_
        refine lv_iconst (v := 0) hx hb dX12_worth_38 (by decide +kernel) ?_
        refine pf_r_3 hx hb hts hiX12 hown hK hn hH lk0 dX12_worth_39 (fun S13 H locs eS13 hH => ?_)
        replace hw := hw S13 eS13
        refine lv_iload hx hb dX12_worth_42 (lv_at hl 0 rfl) ?_
        exact k_iret hx hb hr hlocks hK hN hH hw dX12_worth_44
      · replace hw := hw.1 hc9
        refine lv_iconst (v := -1) hx hb dX12_worth_22 (by decide +kernel) ?_
        exact k_iret hx hb hr hlocks hK hN hH hw dX12_worth_23
def wl_X12_buy_29 (a1 : Int32) (a2 : Int32) (K_29 : Int32 → Int32 → Int32 → St → Prop) : Nat → Int32 → Int32 → Int32 → St → Prop
  | 0, _, _, _, _ => False
  | fu_29 + 1, v3_29, v4_29, v5_29, S_29 => (vp_in (1 : Int32) 232 ∧ (((gA S_29 3 (1 : Int32).toNatClampNeg) ≤ v5_29 → K_29 v3_29 v4_29 v5_29 S_29) ∧ (¬ (gA S_29 3 (1 : Int32).toNatClampNeg) ≤ v5_29 → wp_X12_worthOf v5_29 a1 a2 S_29 (fun r11 S10 => ((r11 ≤ v4_29 → ((r11 ≤ v4_29 → (∀ t14 : Int32, t14 = v5_29 + 1 → wl_X12_buy_29 a1 a2 K_29 fu_29 v3_29 v4_29 t14 S10)) ∧ (¬ r11 ≤ v4_29 → (∀ t15 : Int32, t15 = v5_29 + 1 → wl_X12_buy_29 a1 a2 K_29 fu_29 v3_29 r11 t15 S10)))) ∧ (¬ r11 ≤ v4_29 → ((r11 ≤ v4_29 → (∀ t17 : Int32, t17 = v5_29 + 1 → wl_X12_buy_29 a1 a2 K_29 fu_29 v5_29 v4_29 t17 S10)) ∧ (¬ r11 ≤ v4_29 → (∀ t18 : Int32, t18 = v5_29 + 1 → wl_X12_buy_29 a1 a2 K_29 fu_29 v5_29 r11 t18 S10)))))))))
def wp_X12_buy (a1 : Int32) (a2 : Int32) (S : St) (Q : Int32 → St → Prop) : Prop := wp_X12_isLooker a1 S (fun r2 S1 => ((r2 = 0 → Q (-1 : Int32) S1) ∧ (¬ r2 = 0 → wp_X12_isLong a2 S1 (fun r5 S4 => ((r5 = 0 → Q (-1 : Int32) S4) ∧ (¬ r5 = 0 → wp_X12_lends S4 (fun S7 => (∃ m_29 : Nat, wl_X12_buy_29 a1 a2 (fun e3_19 e4_20 e5_21 S22 => (∀ S23 : St, S23 = sI S22 0 3 (0 : Int32) → Q e3_19 S23)) m_29 (-3 : Int32) (-1 : Int32) (0 : Int32) S7))))))))
set_option maxHeartbeats 4000000 in
set_option maxRecDepth 100000 in
theorem c_X12_buy (l : Launch) (D : va_G) (kA : Nat → ClassId) (ly : Nat → Nat) (n : List Nat) (hn : ∀ c, c < 20 → c ∈ n) (A : Nat → Prop) (a1 : Int32) (a2 : Int32) : Ci l yX12_buy wsX12_buy 4 93 (Gp D (Er kA ly) ly n A kA) A [.ref (ly 0), .int a1, .int a2] (wp_X12_buy a1 a2) := by
  intro S Q
  refine Met.ofW (cc := cX12_buy) (maxL := 7) (ret := (some .int)) (by decide) rfl ?_
  intro p e s m args below meth c s₁ B hml hv
  obtain ⟨rfl, ⟨hP, hD, hK, hN⟩, hw⟩ := hv
  have hx := B.exec
  have hb := B.bytes
  have hr := B.returns
  have hts := atoms_spec (ws := wsX12_buy) B.pre
  have hown : s.vm.findClass RX12 = some m.cls := findClass_of_methodNamed B.named
  have hlocks := B.notSynchronized
  have hH : Hp D (Er kA ly) ly n A s.heap S s.heap [] := ⟨hP, hD, va_S.rf⟩
  have hiX12 : ∀ w ∈ u_ws RX12 TX12 39, w ∈ wsX12_buy := by decide +kernel
  have lk0 := hts (.fieldLink RX12 16 "SlowPanesModel" "row" "[I") (by decide +kernel)
  have lk1 := hts (.fieldLink RX12 76 "SlowPanesModel" "at" "I") (by decide +kernel)
  have hl := lv_entry ([.ref (ly 0), .int a1, .int a2]) (n := 7) (Nat.le_of_ble_eq_true rfl)
  rw [lg_entry_eq]
  generalize (lg_sl ([.ref (ly 0), .int a1, .int a2]) ++ List.replicate (7 - (lg_sl ([.ref (ly 0), .int a1, .int a2])).length) Slot.unset).toArray = ls at hl ⊢
  have hl : lv_has ls 7 [(0, .ref (ly 0)), (1, .int a1), (2, .int a2)] := hl
  rw [wp_X12_buy] at hw
  refine lv_iload_n hx hb dX12_buy_0 rfl (lv_at hl 1 rfl) ?_
  refine k_afti (va_runS (As := [.int a1]) (rest := []) ⟨hx, hb, hml, hown, hts⟩ (c_X12_isLooker l D kA ly n hn A a1 S _) (va_cwS 1 hts gX12_buy_X12_isLooker rfl rfl rfl (by decide +kernel) ⟨(Nat.le_of_ble_eq_true rfl), (Nat.le_of_ble_eq_true rfl)⟩) ⟨k_blind, k_pre hK hN hH hw⟩ rfl rfl hl.1 rfl (lv_room (Nat.le_of_ble_eq_true rfl)) dX12_buy_1 ⟨Nat.le_refl _, Nat.le_refl _⟩) hH (fun r2 S1 H locs hw hH => ?_)
  refine lv_if_eq (tgt := 14) hx hb dX12_buy_4 (by decide) (fun hc3 => ?_) (fun hc3 => ?_)
  · replace hw := hw.1 hc3
    refine lv_iconst (v := -1) hx hb dX12_buy_14 (by decide +kernel) ?_
    exact k_iret hx hb hr hlocks hK hN hH hw dX12_buy_15
  · replace hw := hw.2 hc3
    refine lv_iload_n hx hb dX12_buy_7 rfl (lv_at hl 2 rfl) ?_
    refine k_afti (va_runS (As := [.int a2]) (rest := []) ⟨hx, hb, hml, hown, hts⟩ (c_X12_isLong l D kA ly n hn A a2 S1 _) (va_cwS 1 hts gX12_buy_X12_isLong rfl rfl rfl (by decide +kernel) ⟨(Nat.le_of_ble_eq_true rfl), (Nat.le_of_ble_eq_true rfl)⟩) ⟨k_blind, k_pre hK hN hH hw⟩ rfl rfl hl.1 rfl (lv_room (Nat.le_of_ble_eq_true rfl)) dX12_buy_8 ⟨Nat.le_refl _, Nat.le_refl _⟩) hH (fun r5 S4 H locs hw hH => ?_)
    refine lv_if_ne (tgt := 16) hx hb dX12_buy_11 (by decide) (fun hc6 => ?_) (fun hc6 => ?_)
    · replace hw := hw.2 hc6
      refine lv_bipush (v := -3) hx hb dX12_buy_16 (by decide +kernel) ?_
      refine lv_istore_n (lv' := [(3, .int (-3 : Int32)), (0, .ref (ly 0)), (1, .int a1), (2, .int a2)]) hx hb dX12_buy_18 rfl hl (by decide) rfl (fun ls hl => ?_)
      refine lv_iconst (v := -1) hx hb dX12_buy_19 (by decide +kernel) ?_
      refine lv_istore (lv' := [(4, .int (-1 : Int32)), (3, .int (-3 : Int32)), (0, .ref (ly 0)), (1, .int a1), (2, .int a2)]) hx hb dX12_buy_20 hl (by decide) rfl (fun ls hl => ?_)
      refine lv_aload_n hx hb dX12_buy_22 rfl (lv_at hl 2 rfl) ?_
      refine k_aftv (va_runV (As := []) (rest := []) ⟨hx, hb, hml, hown, hts⟩ (c_X12_lends l D kA ly n hn A S4 _) (cwV 0 hts gX12_buy_X12_lends rfl rfl rfl (by decide +kernel) ⟨(Nat.le_of_ble_eq_true rfl), (Nat.le_of_ble_eq_true rfl)⟩) ⟨k_blind, (k_recv hK hH (hn _ (by decide)) Er_0 rfl), k_pre hK hN hH hw⟩ rfl rfl hl.1 rfl (lv_room (Nat.le_of_ble_eq_true rfl)) dX12_buy_23 ⟨Nat.le_refl _, Nat.le_refl _⟩) hH (fun S7 H locs hw hH => ?_)
      refine lv_iconst (v := 0) hx hb dX12_buy_26 (by decide +kernel) ?_
      refine lv_istore (lv' := [(5, .int (0 : Int32)), (4, .int (-1 : Int32)), (3, .int (-3 : Int32)), (0, .ref (ly 0)), (1, .int a1), (2, .int a2)]) hx hb dX12_buy_27 hl (by decide) rfl (fun ls hl => ?_)
      have L_29 : ∀ (K_29 : Int32 → Int32 → Int32 → St → Prop) (hk_29 : ∀ (v3_29 : Int32) (v4_29 : Int32) (v5_29 : Int32) (S_29 : St) (H : Heap) (locs : List Loc) (ls : Array Slot), K_29 v3_29 v4_29 v5_29 S_29 → Hp D (Er kA ly) ly n A s.heap S_29 H locs → lv_has ls 7 [(0, .ref (ly 0)), (1, .int a1), (2, .int a2), (3, .int v3_29), (4, .int v4_29), (5, .int v5_29)] → W p l e (headSpec wsX12_buy { frames := 4, cells := 0, slots := 0, locals := 93 }).room s m [.ref (ly 0), .int a1, .int a2].toArray below meth c H locs 0 0 (MQ below (va_Qi Q (Gp D (Er kA ly) ly n A kA) A) [.ref (ly 0), .int a1, .int a2].toArray s 0 0 A) (F0 m 86 ls [])) (fu_29 : Nat) (v3_29 : Int32) (v4_29 : Int32) (v5_29 : Int32) (S_29 : St) (H : Heap) (locs : List Loc) (ls : Array Slot), wl_X12_buy_29 a1 a2 K_29 fu_29 v3_29 v4_29 v5_29 S_29 → Hp D (Er kA ly) ly n A s.heap S_29 H locs → lv_has ls 7 [(0, .ref (ly 0)), (1, .int a1), (2, .int a2), (3, .int v3_29), (4, .int v4_29), (5, .int v5_29)] → W p l e (headSpec wsX12_buy { frames := 4, cells := 0, slots := 0, locals := 93 }).room s m [.ref (ly 0), .int a1, .int a2].toArray below meth c H locs 0 0 (MQ below (va_Qi Q (Gp D (Er kA ly) ly n A kA) A) [.ref (ly 0), .int a1, .int a2].toArray s 0 0 A) (F0 m 29 ls []) := by
        intro K_29 hk_29 fu_29
        induction fu_29 with
        | zero => intro v3_29 v4_29 v5_29 S_29 H locs ls hw hH hl; rw [wl_X12_buy_29] at hw; exact hw.elim
        | succ fu_29 ih_29 =>
          intro v3_29 v4_29 v5_29 S_29 H locs ls hw hH hl
          rw [wl_X12_buy_29] at hw
          refine lv_iload hx hb dX12_buy_29 (lv_at hl 5 rfl) ?_
          refine lv_aload_n hx hb dX12_buy_31 rfl (lv_at hl 0 rfl) ?_
          refine gf_r_2 hx hb hts hiX12 hown hK hn hH lk0 dX12_buy_32 ?_
          refine lv_iconst (v := 1) hx hb dX12_buy_35 (by decide +kernel) ?_
          obtain ⟨hi_8, hw⟩ := hw
          refine k_ild hx hb hK hH (hn _ (by decide)) Er_3 hi_8 dX12_buy_36 ?_
          refine lv_icmp_ge (tgt := 86) hx hb dX12_buy_37 (by decide) (fun hc9 => ?_) (fun hc9 => ?_)
          · replace hw := hw.1 hc9
            exact hk_29 v3_29 v4_29 v5_29 S_29 _ _ ls hw hH (lv_sub hl [0, 1, 2, 3, 4, 5] rfl)
          · replace hw := hw.2 hc9
            refine lv_aload_n hx hb dX12_buy_40 rfl (lv_at hl 0 rfl) ?_
            refine lv_iload hx hb dX12_buy_41 (lv_at hl 5 rfl) ?_
            refine lv_iload_n hx hb dX12_buy_43 rfl (lv_at hl 1 rfl) ?_
            refine lv_iload_n hx hb dX12_buy_44 rfl (lv_at hl 2 rfl) ?_
            refine k_afti (va_runV (As := [.int v5_29, .int a1, .int a2]) (rest := []) ⟨hx, hb, hml, hown, hts⟩ (c_X12_worthOf l D kA ly n hn A v5_29 a1 a2 S_29 _) (cwV 3 hts gX12_buy_X12_worthOf rfl rfl rfl (by decide +kernel) ⟨(Nat.le_of_ble_eq_true rfl), (Nat.le_of_ble_eq_true rfl)⟩) ⟨k_blind, (k_recv hK hH (hn _ (by decide)) Er_0 rfl), k_pre hK hN hH hw⟩ rfl rfl hl.1 rfl (lv_room (Nat.le_of_ble_eq_true rfl)) dX12_buy_45 ⟨Nat.le_refl _, Nat.le_refl _⟩) hH (fun r11 S10 H locs hw hH => ?_)
            refine lv_istore (lv' := [(6, .int r11), (0, .ref (ly 0)), (1, .int a1), (2, .int a2), (3, .int v3_29), (4, .int v4_29), (5, .int v5_29)]) hx hb dX12_buy_48 hl (by decide) rfl (fun ls hl => ?_)
            refine lv_iload hx hb dX12_buy_50 (lv_at hl 0 rfl) ?_
            refine lv_iload hx hb dX12_buy_52 (lv_at hl 5 rfl) ?_
            refine lv_icmp_le (tgt := 62) hx hb dX12_buy_54 (by decide) (fun hc12 => ?_) (fun hc12 => ?_)
            · replace hw := hw.1 hc12
              refine lv_iload_n hx hb dX12_buy_62 rfl (lv_at hl 4 rfl) ?_
              refine lv_istore_n (lv' := [(3, .int v3_29), (6, .int r11), (0, .ref (ly 0)), (1, .int a1), (2, .int a2), (4, .int v4_29), (5, .int v5_29)]) hx hb dX12_buy_63 rfl hl (by decide) rfl (fun ls hl => ?_)
              refine lv_iload hx hb dX12_buy_64 (lv_at hl 1 rfl) ?_
              refine lv_iload hx hb dX12_buy_66 (lv_at hl 5 rfl) ?_
              refine lv_icmp_le (tgt := 76) hx hb dX12_buy_68 (by decide) (fun hc13 => ?_) (fun hc13 => ?_)
              · replace hw := hw.1 hc13
                refine lv_iload hx hb dX12_buy_76 (lv_at hl 5 rfl) ?_
                refine lv_istore (lv' := [(4, .int v4_29), (3, .int v3_29), (6, .int r11), (0, .ref (ly 0)), (1, .int a1), (2, .int a2), (5, .int v5_29)]) hx hb dX12_buy_78 hl (by decide) rfl (fun ls hl => ?_)
                obtain ⟨t14, et14⟩ : ∃ y : Int32, y = v5_29 + 1 := ⟨_, rfl⟩
                replace hw := hw t14 et14
                refine lv_iinc (v := t14) (lv' := [(5, .int t14), (4, .int v4_29), (3, .int v3_29), (6, .int r11), (0, .ref (ly 0)), (1, .int a1), (2, .int a2)]) hx hb dX12_buy_80 hl (k := 6) rfl (by rw [et14]; rfl) (by decide) rfl (fun ls hl => ?_)
                refine lv_goto (tgt := 29) hx hb dX12_buy_83 (by decide) ?_
                exact ih_29 v3_29 v4_29 t14 S10 _ _ ls hw hH (lv_sub hl [4, 5, 6, 2, 1, 0] rfl)
              · replace hw := hw.2 hc13
                refine lv_iload hx hb dX12_buy_71 (lv_at hl 1 rfl) ?_
                refine lv_goto (tgt := 78) hx hb dX12_buy_73 (by decide) ?_
                refine lv_istore (lv' := [(4, .int r11), (3, .int v3_29), (6, .int r11), (0, .ref (ly 0)), (1, .int a1), (2, .int a2), (5, .int v5_29)]) hx hb dX12_buy_78 hl (by decide) rfl (fun ls hl => ?_)
                obtain ⟨t15, et15⟩ : ∃ y : Int32, y = v5_29 + 1 := ⟨_, rfl⟩
                replace hw := hw t15 et15
                refine lv_iinc (v := t15) (lv' := [(5, .int t15), (4, .int r11), (3, .int v3_29), (6, .int r11), (0, .ref (ly 0)), (1, .int a1), (2, .int a2)]) hx hb dX12_buy_80 hl (k := 6) rfl (by rw [et15]; rfl) (by decide) rfl (fun ls hl => ?_)
                refine lv_goto (tgt := 29) hx hb dX12_buy_83 (by decide) ?_
                exact ih_29 v3_29 r11 t15 S10 _ _ ls hw hH (lv_sub hl [4, 5, 6, 2, 1, 0] rfl)
            · replace hw := hw.2 hc12
              refine lv_iload hx hb dX12_buy_57 (lv_at hl 6 rfl) ?_
              refine lv_goto (tgt := 63) hx hb dX12_buy_59 (by decide) ?_
              refine lv_istore_n (lv' := [(3, .int v5_29), (6, .int r11), (0, .ref (ly 0)), (1, .int a1), (2, .int a2), (4, .int v4_29), (5, .int v5_29)]) hx hb dX12_buy_63 rfl hl (by decide) rfl (fun ls hl => ?_)
              refine lv_iload hx hb dX12_buy_64 (lv_at hl 1 rfl) ?_
              refine lv_iload hx hb dX12_buy_66 (lv_at hl 5 rfl) ?_
              refine lv_icmp_le (tgt := 76) hx hb dX12_buy_68 (by decide) (fun hc16 => ?_) (fun hc16 => ?_)
              · replace hw := hw.1 hc16
                refine lv_iload hx hb dX12_buy_76 (lv_at hl 5 rfl) ?_
                refine lv_istore (lv' := [(4, .int v4_29), (3, .int v5_29), (6, .int r11), (0, .ref (ly 0)), (1, .int a1), (2, .int a2), (5, .int v5_29)]) hx hb dX12_buy_78 hl (by decide) rfl (fun ls hl => ?_)
                obtain ⟨t17, et17⟩ : ∃ y : Int32, y = v5_29 + 1 := ⟨_, rfl⟩
                replace hw := hw t17 et17
                refine lv_iinc (v := t17) (lv' := [(5, .int t17), (4, .int v4_29), (3, .int v5_29), (6, .int r11), (0, .ref (ly 0)), (1, .int a1), (2, .int a2)]) hx hb dX12_buy_80 hl (k := 6) rfl (by rw [et17]; rfl) (by decide) rfl (fun ls hl => ?_)
                refine lv_goto (tgt := 29) hx hb dX12_buy_83 (by decide) ?_
                exact ih_29 v5_29 v4_29 t17 S10 _ _ ls hw hH (lv_sub hl [4, 5, 6, 2, 1, 0] rfl)
              · replace hw := hw.2 hc16
                refine lv_iload hx hb dX12_buy_71 (lv_at hl 1 rfl) ?_
                refine lv_goto (tgt := 78) hx hb dX12_buy_73 (by decide) ?_
                refine lv_istore (lv' := [(4, .int r11), (3, .int v5_29), (6, .int r11), (0, .ref (ly 0)), (1, .int a1), (2, .int a2), (5, .int v5_29)]) hx hb dX12_buy_78 hl (by decide) rfl (fun ls hl => ?_)
                obtain ⟨t18, et18⟩ : ∃ y : Int32, y = v5_29 + 1 := ⟨_, rfl⟩
                replace hw := hw t18 et18
                refine lv_iinc (v := t18) (lv' := [(5, .int t18), (4, .int r11), (3, .int v5_29), (6, .int r11), (0, .ref (ly 0)), (1, .int a1), (2, .int a2)]) hx hb dX12_buy_80 hl (k := 6) rfl (by rw [et18]; rfl) (by decide) rfl (fun ls hl => ?_)
                refine lv_goto (tgt := 29) hx hb dX12_buy_83 (by decide) ?_
                exact ih_29 v5_29 r11 t18 S10 _ _ ls hw hH (lv_sub hl [4, 5, 6, 2, 1, 0] rfl)
      obtain ⟨m_29, hw⟩ := hw
      refine L_29 _ (fun e3_19 e4_20 e5_21 S22 H locs ls hw hH hl => ?_) m_29 (-3 : Int32) (-1 : Int32) (0 : Int32) S7 _ _ ls hw hH (lv_sub hl [3, 4, 5, 2, 1, 0] rfl)
      refine lv_aload_n hx hb dX12_buy_86 rfl (lv_at hl 0 rfl) ?_
      refine lv_iconst (v := 0) hx hb dX12_buy_87 (by decide +kernel) ?_
      refine pf_r_3 hx hb hts hiX12 hown hK hn hH lk1 dX12_buy_88 (fun S23 H locs eS23 hH => ?_)
      replace hw := hw S23 eS23
      refine lv_iload_n hx hb dX12_buy_91 rfl (lv_at hl 3 rfl) ?_
      exact k_iret hx hb hr hlocks hK hN hH hw dX12_buy_92
    · replace hw := hw.1 hc6
      refine lv_iconst (v := -1) hx hb dX12_buy_14 (by decide +kernel) ?_
      exact k_iret hx hb hr hlocks hK hN hH hw dX12_buy_15
