def wl_X12_days_14 (a1 : Int32) (K_14 : Int32 → St → Prop) : Nat → Int32 → St → Prop
  | 0, _, _ => False
  | fu_14 + 1, v2_14, S_14 => ((a1 ≤ v2_14 → K_14 v2_14 S_14) ∧ (¬ a1 ≤ v2_14 → (vp_in (0 : Int32) 232 ∧ (((50 : Int32) ≤ (gA S_14 3 (0 : Int32).toNatClampNeg) → K_14 v2_14 S_14) ∧ (¬ (50 : Int32) ≤ (gA S_14 3 (0 : Int32).toNatClampNeg) → wp_X12_dayGoes S_14 (fun S7 => (∀ t8 : Int32, t8 = v2_14 + 1 → wl_X12_days_14 a1 K_14 fu_14 t8 S7)))))))
def wp_X12_days (a1 : Int32) (S : St) (Q : Int32 → St → Prop) : Prop := wp_X12_in a1 (0 : Int32) (50 : Int32) S (fun r2 S1 => ((r2 = 0 → Q (-1 : Int32) S1) ∧ (¬ r2 = 0 → (∃ m_14 : Nat, wl_X12_days_14 a1 (fun e2_9 S10 => (vp_in (0 : Int32) 232 ∧ Q (gA S10 3 (0 : Int32).toNatClampNeg) S10)) m_14 (0 : Int32) S1))))
set_option maxHeartbeats 4000000 in
set_option maxRecDepth 100000 in
theorem c_X12_days (l : Launch) (D : va_G) (kA : Nat → ClassId) (ly : Nat → Nat) (n : List Nat) (hn : ∀ c, c < 20 → c ∈ n) (A : Nat → Prop) (a1 : Int32) : Ci l yX12_days wsX12_days 3 68 (Gp D (Er kA ly) ly n A kA) A [.ref (ly 0), .int a1] (wp_X12_days a1) := by
  intro S Q
  refine Met.ofW (cc := cX12_days) (maxL := 3) (ret := (some .int)) (by decide) rfl ?_
  intro p e s m args below meth c s₁ B hml hv
  obtain ⟨rfl, ⟨hP, hD, hK, hN⟩, hw⟩ := hv
  have hx := B.exec
  have hb := B.bytes
  have hr := B.returns
  have hts := atoms_spec (ws := wsX12_days) B.pre
  have hown : s.vm.findClass RX12 = some m.cls := findClass_of_methodNamed B.named
  have hlocks := B.notSynchronized
  have hH : Hp D (Er kA ly) ly n A s.heap S s.heap [] := ⟨hP, hD, va_S.rf⟩
  have hiX12 : ∀ w ∈ u_ws RX12 TX12 39, w ∈ wsX12_days := by decide +kernel
  have lk0 := hts (.fieldLink RX12 16 "SlowPanesModel" "row" "[I") (by decide +kernel)
  have hl := lv_entry ([.ref (ly 0), .int a1]) (n := 3) (Nat.le_of_ble_eq_true rfl)
  rw [lg_entry_eq]
  generalize (lg_sl ([.ref (ly 0), .int a1]) ++ List.replicate (3 - (lg_sl ([.ref (ly 0), .int a1])).length) Slot.unset).toArray = ls at hl ⊢
  have hl : lv_has ls 3 [(0, .ref (ly 0)), (1, .int a1)] := hl
  rw [wp_X12_days] at hw
  refine lv_iload_n hx hb dX12_days_0 rfl (lv_at hl 1 rfl) ?_
  refine lv_iconst (v := 0) hx hb dX12_days_1 (by decide +kernel) ?_
  refine lv_bipush (v := 50) hx hb dX12_days_2 (by decide +kernel) ?_
  refine k_afti (va_runS (As := [.int a1, .int (0 : Int32), .int (50 : Int32)]) (rest := []) ⟨hx, hb, hml, hown, hts⟩ (c_X12_in l D kA ly n hn A a1 (0 : Int32) (50 : Int32) S _) (va_cwS 3 hts gX12_days_X12_in rfl rfl rfl (by decide +kernel) ⟨(Nat.le_of_ble_eq_true rfl), (Nat.le_of_ble_eq_true rfl)⟩) ⟨k_blind, k_pre hK hN hH hw⟩ rfl rfl hl.1 rfl (lv_room (Nat.le_of_ble_eq_true rfl)) dX12_days_4 ⟨Nat.le_refl _, Nat.le_refl _⟩) hH (fun r2 S1 H locs hw hH => ?_)
  refine lv_if_ne (tgt := 12) hx hb dX12_days_7 (by decide) (fun hc3 => ?_) (fun hc3 => ?_)
  · replace hw := hw.2 hc3
    refine lv_iconst (v := 0) hx hb dX12_days_12 (by decide +kernel) ?_
    refine lv_istore_n (lv' := [(2, .int (0 : Int32)), (0, .ref (ly 0)), (1, .int a1)]) hx hb dX12_days_13 rfl hl (by decide) rfl (fun ls hl => ?_)
    have L_14 : ∀ (K_14 : Int32 → St → Prop) (hk_14 : ∀ (v2_14 : Int32) (S_14 : St) (H : Heap) (locs : List Loc) (ls : Array Slot), K_14 v2_14 S_14 → Hp D (Er kA ly) ly n A s.heap S_14 H locs → lv_has ls 3 [(0, .ref (ly 0)), (1, .int a1), (2, .int v2_14)] → W p l e (headSpec wsX12_days { frames := 3, cells := 0, slots := 0, locals := 68 }).room s m [.ref (ly 0), .int a1].toArray below meth c H locs 0 0 (MQ below (va_Qi Q (Gp D (Er kA ly) ly n A kA) A) [.ref (ly 0), .int a1].toArray s 0 0 A) (F0 m 40 ls [])) (fu_14 : Nat) (v2_14 : Int32) (S_14 : St) (H : Heap) (locs : List Loc) (ls : Array Slot), wl_X12_days_14 a1 K_14 fu_14 v2_14 S_14 → Hp D (Er kA ly) ly n A s.heap S_14 H locs → lv_has ls 3 [(0, .ref (ly 0)), (1, .int a1), (2, .int v2_14)] → W p l e (headSpec wsX12_days { frames := 3, cells := 0, slots := 0, locals := 68 }).room s m [.ref (ly 0), .int a1].toArray below meth c H locs 0 0 (MQ below (va_Qi Q (Gp D (Er kA ly) ly n A kA) A) [.ref (ly 0), .int a1].toArray s 0 0 A) (F0 m 14 ls []) := by
      intro K_14 hk_14 fu_14
      induction fu_14 with
      | zero => intro v2_14 S_14 H locs ls hw hH hl; rw [wl_X12_days_14] at hw; exact hw.elim
      | succ fu_14 ih_14 =>
        intro v2_14 S_14 H locs ls hw hH hl
        rw [wl_X12_days_14] at hw
        refine lv_iload_n hx hb dX12_days_14 rfl (lv_at hl 2 rfl) ?_
        refine lv_iload_n hx hb dX12_days_15 rfl (lv_at hl 1 rfl) ?_
        refine lv_icmp_ge (tgt := 40) hx hb dX12_days_16 (by decide) (fun hc4 => ?_) (fun hc4 => ?_)
        · replace hw := hw.1 hc4
          exact hk_14 v2_14 S_14 _ _ ls hw hH (lv_sub hl [0, 1, 2] rfl)
        · replace hw := hw.2 hc4
          refine lv_aload_n hx hb dX12_days_19 rfl (lv_at hl 0 rfl) ?_
          refine gf_r_2 hx hb hts hiX12 hown hK hn hH lk0 dX12_days_20 ?_
          refine lv_iconst (v := 0) hx hb dX12_days_23 (by decide +kernel) ?_
          obtain ⟨hi_5, hw⟩ := hw
          refine k_ild hx hb hK hH (hn _ (by decide)) Er_3 hi_5 dX12_days_24 ?_
          refine lv_bipush (v := 50) hx hb dX12_days_25 (by decide +kernel) ?_
          refine lv_icmp_ge (tgt := 40) hx hb dX12_days_27 (by decide) (fun hc6 => ?_) (fun hc6 => ?_)
          · replace hw := hw.1 hc6
            exact hk_14 v2_14 S_14 _ _ ls hw hH (lv_sub hl [0, 1, 2] rfl)
          · replace hw := hw.2 hc6
            refine lv_aload_n hx hb dX12_days_30 rfl (lv_at hl 0 rfl) ?_
            refine k_aftv (va_runV (As := []) (rest := []) ⟨hx, hb, hml, hown, hts⟩ (c_X12_dayGoes l D kA ly n hn A S_14 _) (cwV 0 hts gX12_days_X12_dayGoes rfl rfl rfl (by decide +kernel) ⟨(Nat.le_of_ble_eq_true rfl), (Nat.le_of_ble_eq_true rfl)⟩) ⟨k_blind, (k_recv hK hH (hn _ (by decide)) Er_0 rfl), k_pre hK hN hH hw⟩ rfl rfl hl.1 rfl (lv_room (Nat.le_of_ble_eq_true rfl)) dX12_days_31 ⟨Nat.le_refl _, Nat.le_refl _⟩) hH (fun S7 H locs hw hH => ?_)
            obtain ⟨t8, et8⟩ : ∃ y : Int32, y = v2_14 + 1 := ⟨_, rfl⟩
            replace hw := hw t8 et8
            refine lv_iinc (v := t8) (lv' := [(2, .int t8), (0, .ref (ly 0)), (1, .int a1)]) hx hb dX12_days_34 hl (k := 2) rfl (by rw [et8]; rfl) (by decide) rfl (fun ls hl => ?_)
            refine lv_goto (tgt := 14) hx hb dX12_days_37 (by decide) ?_
            exact ih_14 t8 S7 _ _ ls hw hH (lv_sub hl [1, 2, 0] rfl)
    obtain ⟨m_14, hw⟩ := hw
    refine L_14 _ (fun e2_9 S10 H locs ls hw hH hl => ?_) m_14 (0 : Int32) S1 _ _ ls hw hH (lv_sub hl [1, 2, 0] rfl)
    refine lv_aload_n hx hb dX12_days_40 rfl (lv_at hl 0 rfl) ?_
    refine gf_r_2 hx hb hts hiX12 hown hK hn hH lk0 dX12_days_41 ?_
    refine lv_iconst (v := 0) hx hb dX12_days_44 (by decide +kernel) ?_
    obtain ⟨hi_11, hw⟩ := hw
    refine k_ild hx hb hK hH (hn _ (by decide)) Er_3 hi_11 dX12_days_45 ?_
    exact k_iret hx hb hr hlocks hK hN hH hw dX12_days_46
  · replace hw := hw.1 hc3
    refine lv_iconst (v := -1) hx hb dX12_days_10 (by decide +kernel) ?_
    exact k_iret hx hb hr hlocks hK hN hH hw dX12_days_11
def wp_X12_swaps (a1 : Int32) (a2 : Int32) (a3 : Int32) (S : St) (Q : St → Prop) : Prop := wp_X12_its a1 a2 S (fun r2 S1 => wp_X12_its a1 a3 S1 (fun r4 S3 => wp_X12_becomes a1 a2 r4 S3 (fun S5 => wp_X12_becomes a1 a3 r2 S5 (fun S6 => Q S6))))
set_option maxHeartbeats 4000000 in
set_option maxRecDepth 100000 in
theorem c_X12_swaps (l : Launch) (D : va_G) (kA : Nat → ClassId) (ly : Nat → Nat) (n : List Nat) (hn : ∀ c, c < 20 → c ∈ n) (A : Nat → Prop) (a1 : Int32) (a2 : Int32) (a3 : Int32) : Cv l yX12_swaps wsX12_swaps 1 23 (Gp D (Er kA ly) ly n A kA) A [.ref (ly 0), .int a1, .int a2, .int a3] (wp_X12_swaps a1 a2 a3) := by
  intro S Q
  refine Met.ofW (cc := cX12_swaps) (maxL := 5) (ret := none) (by decide) rfl ?_
  intro p e s m args below meth c s₁ B hml hv
  obtain ⟨rfl, ⟨hP, hD, hK, hN⟩, hw⟩ := hv
  have hx := B.exec
  have hb := B.bytes
  have hr := B.returns
  have hts := atoms_spec (ws := wsX12_swaps) B.pre
  have hown : s.vm.findClass RX12 = some m.cls := findClass_of_methodNamed B.named
  have hlocks := B.notSynchronized
  have hH : Hp D (Er kA ly) ly n A s.heap S s.heap [] := ⟨hP, hD, va_S.rf⟩
  have hl := lv_entry ([.ref (ly 0), .int a1, .int a2, .int a3]) (n := 5) (Nat.le_of_ble_eq_true rfl)
  rw [lg_entry_eq]
  generalize (lg_sl ([.ref (ly 0), .int a1, .int a2, .int a3]) ++ List.replicate (5 - (lg_sl ([.ref (ly 0), .int a1, .int a2, .int a3])).length) Slot.unset).toArray = ls at hl ⊢
  have hl : lv_has ls 5 [(0, .ref (ly 0)), (1, .int a1), (2, .int a2), (3, .int a3)] := hl
  rw [wp_X12_swaps] at hw
  refine lv_aload_n hx hb dX12_swaps_0 rfl (lv_at hl 0 rfl) ?_
  refine lv_iload_n hx hb dX12_swaps_1 rfl (lv_at hl 1 rfl) ?_
  refine lv_iload_n hx hb dX12_swaps_2 rfl (lv_at hl 2 rfl) ?_
  refine k_afti (va_runV (As := [.int a1, .int a2]) (rest := []) ⟨hx, hb, hml, hown, hts⟩ (c_X12_its l D kA ly n hn A a1 a2 S _) (cwV 2 hts gX12_swaps_X12_its rfl rfl rfl (by decide +kernel) ⟨(Nat.le_of_ble_eq_true rfl), (Nat.le_of_ble_eq_true rfl)⟩) ⟨k_blind, (k_recv hK hH (hn _ (by decide)) Er_0 rfl), k_pre hK hN hH hw⟩ rfl rfl hl.1 rfl (lv_room (Nat.le_of_ble_eq_true rfl)) dX12_swaps_3 ⟨Nat.le_refl _, Nat.le_refl _⟩) hH (fun r2 S1 H locs hw hH => ?_)
  refine lv_istore (lv' := [(4, .int r2), (0, .ref (ly 0)), (1, .int a1), (2, .int a2), (3, .int a3)]) hx hb dX12_swaps_6 hl (by decide) rfl (fun ls hl => ?_)
  refine lv_aload_n hx hb dX12_swaps_8 rfl (lv_at hl 1 rfl) ?_
  refine lv_iload_n hx hb dX12_swaps_9 rfl (lv_at hl 2 rfl) ?_
  refine lv_iload_n hx hb dX12_swaps_10 rfl (lv_at hl 3 rfl) ?_
  refine lv_aload_n hx hb dX12_swaps_11 rfl (lv_at hl 1 rfl) ?_
  refine lv_iload_n hx hb dX12_swaps_12 rfl (lv_at hl 2 rfl) ?_
  refine lv_iload_n hx hb dX12_swaps_13 rfl (lv_at hl 4 rfl) ?_
  refine k_afti (va_runV (As := [.int a1, .int a3]) (rest := [.int a2, .int a1, .ref (ly 0)]) ⟨hx, hb, hml, hown, hts⟩ (c_X12_its l D kA ly n hn A a1 a3 S1 _) (cwV 2 hts gX12_swaps_X12_its rfl rfl rfl (by decide +kernel) ⟨(Nat.le_of_ble_eq_true rfl), (Nat.le_of_ble_eq_true rfl)⟩) ⟨k_blind, (k_recv hK hH (hn _ (by decide)) Er_0 rfl), k_pre hK hN hH hw⟩ rfl rfl hl.1 rfl (lv_room (Nat.le_of_ble_eq_true rfl)) dX12_swaps_14 ⟨Nat.le_refl _, Nat.le_refl _⟩) hH (fun r4 S3 H locs hw hH => ?_)
  refine k_aftv (va_runV (As := [.int a1, .int a2, .int r4]) (rest := []) ⟨hx, hb, hml, hown, hts⟩ (c_X12_becomes l D kA ly n hn A a1 a2 r4 S3 _) (cwV 3 hts gX12_swaps_X12_becomes rfl rfl rfl (by decide +kernel) ⟨(Nat.le_of_ble_eq_true rfl), (Nat.le_of_ble_eq_true rfl)⟩) ⟨k_blind, (k_recv hK hH (hn _ (by decide)) Er_0 rfl), k_pre hK hN hH hw⟩ rfl rfl hl.1 rfl (lv_room (Nat.le_of_ble_eq_true rfl)) dX12_swaps_17 ⟨Nat.le_refl _, Nat.le_refl _⟩) hH (fun S5 H locs hw hH => ?_)
  refine lv_aload_n hx hb dX12_swaps_20 rfl (lv_at hl 1 rfl) ?_
  refine lv_iload_n hx hb dX12_swaps_21 rfl (lv_at hl 2 rfl) ?_
  refine lv_iload_n hx hb dX12_swaps_22 rfl (lv_at hl 4 rfl) ?_
  refine lv_iload hx hb dX12_swaps_23 (lv_at hl 0 rfl) ?_
  refine k_aftv (va_runV (As := [.int a1, .int a3, .int r2]) (rest := []) ⟨hx, hb, hml, hown, hts⟩ (c_X12_becomes l D kA ly n hn A a1 a3 r2 S5 _) (cwV 3 hts gX12_swaps_X12_becomes rfl rfl rfl (by decide +kernel) ⟨(Nat.le_of_ble_eq_true rfl), (Nat.le_of_ble_eq_true rfl)⟩) ⟨k_blind, (k_recv hK hH (hn _ (by decide)) Er_0 rfl), k_pre hK hN hH hw⟩ rfl rfl hl.1 rfl (lv_room (Nat.le_of_ble_eq_true rfl)) dX12_swaps_25 ⟨Nat.le_refl _, Nat.le_refl _⟩) hH (fun S6 H locs hw hH => ?_)
  exact k_vret hx hb hr hlocks hK hN hH hw dX12_swaps_28
def wl_X12_turns_9 (a1 : Int32) (r2 : Int32) (K_9 : Int32 → St → Prop) : Nat → Int32 → St → Prop
  | 0, _, _ => False
  | fu_9 + 1, v3_9, S_9 => (((r2 / (2 : Int32)) ≤ v3_9 → K_9 v3_9 S_9) ∧ (¬ (r2 / (2 : Int32)) ≤ v3_9 → wp_X12_swaps a1 ((3 : Int32) + v3_9) ((((3 : Int32) + r2) - (1 : Int32)) - v3_9) S_9 (fun S4 => (∀ t5 : Int32, t5 = v3_9 + 1 → wl_X12_turns_9 a1 r2 K_9 fu_9 t5 S4))))
def wp_X12_turns (a1 : Int32) (S : St) (Q : St → Prop) : Prop := wp_X12_its a1 (1 : Int32) S (fun r2 S1 => (∃ m_9 : Nat, wl_X12_turns_9 a1 r2 (fun e3_6 S7 => Q S7) m_9 (0 : Int32) S1))
set_option maxHeartbeats 4000000 in
set_option maxRecDepth 100000 in
theorem c_X12_turns (l : Launch) (D : va_G) (kA : Nat → ClassId) (ly : Nat → Nat) (n : List Nat) (hn : ∀ c, c < 20 → c ∈ n) (A : Nat → Prop) (a1 : Int32) : Cv l yX12_turns wsX12_turns 2 47 (Gp D (Er kA ly) ly n A kA) A [.ref (ly 0), .int a1] (wp_X12_turns a1) := by
  intro S Q
  refine Met.ofW (cc := cX12_turns) (maxL := 4) (ret := none) (by decide) rfl ?_
  intro p e s m args below meth c s₁ B hml hv
  obtain ⟨rfl, ⟨hP, hD, hK, hN⟩, hw⟩ := hv
  have hx := B.exec
  have hb := B.bytes
  have hr := B.returns
  have hts := atoms_spec (ws := wsX12_turns) B.pre
  have hown : s.vm.findClass RX12 = some m.cls := findClass_of_methodNamed B.named
  have hlocks := B.notSynchronized
  have hH : Hp D (Er kA ly) ly n A s.heap S s.heap [] := ⟨hP, hD, va_S.rf⟩
  have hl := lv_entry ([.ref (ly 0), .int a1]) (n := 4) (Nat.le_of_ble_eq_true rfl)
  rw [lg_entry_eq]
  generalize (lg_sl ([.ref (ly 0), .int a1]) ++ List.replicate (4 - (lg_sl ([.ref (ly 0), .int a1])).length) Slot.unset).toArray = ls at hl ⊢
  have hl : lv_has ls 4 [(0, .ref (ly 0)), (1, .int a1)] := hl
  rw [wp_X12_turns] at hw
  refine lv_aload_n hx hb dX12_turns_0 rfl (lv_at hl 0 rfl) ?_
  refine lv_iload_n hx hb dX12_turns_1 rfl (lv_at hl 1 rfl) ?_
  refine lv_iconst (v := 1) hx hb dX12_turns_2 (by decide +kernel) ?_
  refine k_afti (va_runV (As := [.int a1, .int (1 : Int32)]) (rest := []) ⟨hx, hb, hml, hown, hts⟩ (c_X12_its l D kA ly n hn A a1 (1 : Int32) S _) (cwV 2 hts gX12_turns_X12_its rfl rfl rfl (by decide +kernel) ⟨(Nat.le_of_ble_eq_true rfl), (Nat.le_of_ble_eq_true rfl)⟩) ⟨k_blind, (k_recv hK hH (hn _ (by decide)) Er_0 rfl), k_pre hK hN hH hw⟩ rfl rfl hl.1 rfl (lv_room (Nat.le_of_ble_eq_true rfl)) dX12_turns_3 ⟨Nat.le_refl _, Nat.le_refl _⟩) hH (fun r2 S1 H locs hw hH => ?_)
  refine lv_istore_n (lv' := [(2, .int r2), (0, .ref (ly 0)), (1, .int a1)]) hx hb dX12_turns_6 rfl hl (by decide) rfl (fun ls hl => ?_)
  refine lv_iconst (v := 0) hx hb dX12_turns_7 (by decide +kernel) ?_
  refine lv_istore_n (lv' := [(3, .int (0 : Int32)), (2, .int r2), (0, .ref (ly 0)), (1, .int a1)]) hx hb dX12_turns_8 rfl hl (by decide) rfl (fun ls hl => ?_)
  have L_9 : ∀ (K_9 : Int32 → St → Prop) (hk_9 : ∀ (v3_9 : Int32) (S_9 : St) (H : Heap) (locs : List Loc) (ls : Array Slot), K_9 v3_9 S_9 → Hp D (Er kA ly) ly n A s.heap S_9 H locs → lv_has ls 4 [(0, .ref (ly 0)), (1, .int a1), (2, .int r2), (3, .int v3_9)] → W p l e (headSpec wsX12_turns { frames := 2, cells := 0, slots := 0, locals := 47 }).room s m [.ref (ly 0), .int a1].toArray below meth c H locs 0 0 (MQ below (va_Qv Q (Gp D (Er kA ly) ly n A kA) A) [.ref (ly 0), .int a1].toArray s 0 0 A) (F0 m 37 ls [])) (fu_9 : Nat) (v3_9 : Int32) (S_9 : St) (H : Heap) (locs : List Loc) (ls : Array Slot), wl_X12_turns_9 a1 r2 K_9 fu_9 v3_9 S_9 → Hp D (Er kA ly) ly n A s.heap S_9 H locs → lv_has ls 4 [(0, .ref (ly 0)), (1, .int a1), (2, .int r2), (3, .int v3_9)] → W p l e (headSpec wsX12_turns { frames := 2, cells := 0, slots := 0, locals := 47 }).room s m [.ref (ly 0), .int a1].toArray below meth c H locs 0 0 (MQ below (va_Qv Q (Gp D (Er kA ly) ly n A kA) A) [.ref (ly 0), .int a1].toArray s 0 0 A) (F0 m 9 ls []) := by
    intro K_9 hk_9 fu_9
    induction fu_9 with
    | zero => intro v3_9 S_9 H locs ls hw hH hl; rw [wl_X12_turns_9] at hw; exact hw.elim
    | succ fu_9 ih_9 =>
      intro v3_9 S_9 H locs ls hw hH hl
      rw [wl_X12_turns_9] at hw
      refine lv_iload_n hx hb dX12_turns_9 rfl (lv_at hl 3 rfl) ?_
      refine lv_iload_n hx hb dX12_turns_10 rfl (lv_at hl 2 rfl) ?_
      refine lv_iconst (v := 2) hx hb dX12_turns_11 (by decide +kernel) ?_
      refine lv_idiv hx hb dX12_turns_12 (by decide) ?_
      refine lv_icmp_ge (tgt := 37) hx hb dX12_turns_13 (by decide) (fun hc3 => ?_) (fun hc3 => ?_)
      · replace hw := hw.1 hc3
        exact hk_9 v3_9 S_9 _ _ ls hw hH (lv_sub hl [0, 1, 2, 3] rfl)
      · replace hw := hw.2 hc3
        refine lv_aload_n hx hb dX12_turns_16 rfl (lv_at hl 0 rfl) ?_
        refine lv_iload_n hx hb dX12_turns_17 rfl (lv_at hl 1 rfl) ?_
        refine lv_iconst (v := 3) hx hb dX12_turns_18 (by decide +kernel) ?_
        refine lv_iload_n hx hb dX12_turns_19 rfl (lv_at hl 3 rfl) ?_
        refine lv_iadd hx hb dX12_turns_20 ?_
        refine lv_iconst (v := 3) hx hb dX12_turns_21 (by decide +kernel) ?_
        refine lv_iload_n hx hb dX12_turns_22 rfl (lv_at hl 2 rfl) ?_
        refine lv_iadd hx hb dX12_turns_23 ?_
        refine lv_iconst (v := 1) hx hb dX12_turns_24 (by decide +kernel) ?_
        refine lv_isub hx hb dX12_turns_25 ?_
        refine lv_iload_n hx hb dX12_turns_26 rfl (lv_at hl 3 rfl) ?_
        refine lv_isub hx hb dX12_turns_27 ?_
        refine k_aftv (va_runV (As := [.int a1, .int ((3 : Int32) + v3_9), .int ((((3 : Int32) + r2) - (1 : Int32)) - v3_9)]) (rest := []) ⟨hx, hb, hml, hown, hts⟩ (c_X12_swaps l D kA ly n hn A a1 ((3 : Int32) + v3_9) ((((3 : Int32) + r2) - (1 : Int32)) - v3_9) S_9 _) (cwV 3 hts gX12_turns_X12_swaps rfl rfl rfl (by decide +kernel) ⟨(Nat.le_of_ble_eq_true rfl), (Nat.le_of_ble_eq_true rfl)⟩) ⟨k_blind, (k_recv hK hH (hn _ (by decide)) Er_0 rfl), k_pre hK hN hH hw⟩ rfl rfl hl.1 rfl (lv_room (Nat.le_of_ble_eq_true rfl)) dX12_turns_28 ⟨Nat.le_refl _, Nat.le_refl _⟩) hH (fun S4 H locs hw hH => ?_)
        obtain ⟨t5, et5⟩ : ∃ y : Int32, y = v3_9 + 1 := ⟨_, rfl⟩
        replace hw := hw t5 et5
        refine lv_iinc (v := t5) (lv' := [(3, .int t5), (0, .ref (ly 0)), (1, .int a1), (2, .int r2)]) hx hb dX12_turns_31 hl (k := 3) rfl (by rw [et5]; rfl) (by decide) rfl (fun ls hl => ?_)
        refine lv_goto (tgt := 9) hx hb dX12_turns_34 (by decide) ?_
        exact ih_9 t5 S4 _ _ ls hw hH (lv_sub hl [1, 2, 3, 0] rfl)
  obtain ⟨m_9, hw⟩ := hw
  refine L_9 _ (fun e3_6 S7 H locs ls hw hH hl => ?_) m_9 (0 : Int32) S1 _ _ ls hw hH (lv_sub hl [2, 3, 1, 0] rfl)
  exact k_vret hx hb hr hlocks hK hN hH hw dX12_turns_37
def wp_X12_turn (a1 : Int32) (S : St) (Q : Int32 → St → Prop) : Prop := wp_X12_isPane a1 S (fun r2 S1 => ((r2 = 0 → Q (-1 : Int32) S1) ∧ (¬ r2 = 0 → wp_X12_turns a1 S1 (fun S4 => wp_X12_shown a1 S4 (fun r6 S5 => Q r6 S5)))))
set_option maxHeartbeats 4000000 in
set_option maxRecDepth 100000 in
theorem c_X12_turn (l : Launch) (D : va_G) (kA : Nat → ClassId) (ly : Nat → Nat) (n : List Nat) (hn : ∀ c, c < 20 → c ∈ n) (A : Nat → Prop) (a1 : Int32) : Ci l yX12_turn wsX12_turn 3 70 (Gp D (Er kA ly) ly n A kA) A [.ref (ly 0), .int a1] (wp_X12_turn a1) := by
  intro S Q
  refine Met.ofW (cc := cX12_turn) (maxL := 2) (ret := (some .int)) (by decide) rfl ?_
  intro p e s m args below meth c s₁ B hml hv
  obtain ⟨rfl, ⟨hP, hD, hK, hN⟩, hw⟩ := hv
  have hx := B.exec
  have hb := B.bytes
  have hr := B.returns
  have hts := atoms_spec (ws := wsX12_turn) B.pre
  have hown : s.vm.findClass RX12 = some m.cls := findClass_of_methodNamed B.named
  have hlocks := B.notSynchronized
  have hH : Hp D (Er kA ly) ly n A s.heap S s.heap [] := ⟨hP, hD, va_S.rf⟩
  have hl := lv_entry ([.ref (ly 0), .int a1]) (n := 2) (Nat.le_of_ble_eq_true rfl)
  rw [lg_entry_eq]
  generalize (lg_sl ([.ref (ly 0), .int a1]) ++ List.replicate (2 - (lg_sl ([.ref (ly 0), .int a1])).length) Slot.unset).toArray = ls at hl ⊢
  have hl : lv_has ls 2 [(0, .ref (ly 0)), (1, .int a1)] := hl
  rw [wp_X12_turn] at hw
  refine lv_aload_n hx hb dX12_turn_0 rfl (lv_at hl 0 rfl) ?_
  refine lv_iload_n hx hb dX12_turn_1 rfl (lv_at hl 1 rfl) ?_
  refine k_afti (va_runV (As := [.int a1]) (rest := []) ⟨hx, hb, hml, hown, hts⟩ (c_X12_isPane l D kA ly n hn A a1 S _) (cwV 1 hts gX12_turn_X12_isPane rfl rfl rfl (by decide +kernel) ⟨(Nat.le_of_ble_eq_true rfl), (Nat.le_of_ble_eq_true rfl)⟩) ⟨k_blind, (k_recv hK hH (hn _ (by decide)) Er_0 rfl), k_pre hK hN hH hw⟩ rfl rfl hl.1 rfl (lv_room (Nat.le_of_ble_eq_true rfl)) dX12_turn_2 ⟨Nat.le_refl _, Nat.le_refl _⟩) hH (fun r2 S1 H locs hw hH => ?_)
  refine lv_if_ne (tgt := 10) hx hb dX12_turn_5 (by decide) (fun hc3 => ?_) (fun hc3 => ?_)
  · replace hw := hw.2 hc3
    refine lv_aload_n hx hb dX12_turn_10 rfl (lv_at hl 0 rfl) ?_
    refine lv_iload_n hx hb dX12_turn_11 rfl (lv_at hl 1 rfl) ?_
    refine k_aftv (va_runV (As := [.int a1]) (rest := []) ⟨hx, hb, hml, hown, hts⟩ (c_X12_turns l D kA ly n hn A a1 S1 _) (cwV 1 hts gX12_turn_X12_turns rfl rfl rfl (by decide +kernel) ⟨(Nat.le_of_ble_eq_true rfl), (Nat.le_of_ble_eq_true rfl)⟩) ⟨k_blind, (k_recv hK hH (hn _ (by decide)) Er_0 rfl), k_pre hK hN hH hw⟩ rfl rfl hl.1 rfl (lv_room (Nat.le_of_ble_eq_true rfl)) dX12_turn_12 ⟨Nat.le_refl _, Nat.le_refl _⟩) hH (fun S4 H locs hw hH => ?_)
    refine lv_aload_n hx hb dX12_turn_15 rfl (lv_at hl 0 rfl) ?_
    refine lv_iload_n hx hb dX12_turn_16 rfl (lv_at hl 1 rfl) ?_
    refine k_afti (va_runV (As := [.int a1]) (rest := []) ⟨hx, hb, hml, hown, hts⟩ (c_X12_shown l D kA ly n hn A a1 S4 _) (cwV 1 hts gX12_turn_X12_shown rfl rfl rfl (by decide +kernel) ⟨(Nat.le_of_ble_eq_true rfl), (Nat.le_of_ble_eq_true rfl)⟩) ⟨k_blind, (k_recv hK hH (hn _ (by decide)) Er_0 rfl), k_pre hK hN hH hw⟩ rfl rfl hl.1 rfl (lv_room (Nat.le_of_ble_eq_true rfl)) dX12_turn_17 ⟨Nat.le_refl _, Nat.le_refl _⟩) hH (fun r6 S5 H locs hw hH => ?_)
    exact k_iret hx hb hr hlocks hK hN hH hw dX12_turn_20
  · replace hw := hw.1 hc3
    refine lv_iconst (v := -1) hx hb dX12_turn_8 (by decide +kernel) ?_
    exact k_iret hx hb hr hlocks hK hN hH hw dX12_turn_9
def wl_X12_cuts_22 (a1 : Int32) (a2 : Int32) (a3 : Int32) (r2 : Int32) (K_22 : Int32 → St → Prop) : Nat → Int32 → St → Prop
  | 0, _, _ => False
  | fu_22 + 1, v5_22, S_22 => ((r2 ≤ v5_22 → K_22 v5_22 S_22) ∧ (¬ r2 ≤ v5_22 → wp_X12_its a1 ((3 : Int32) + v5_22) S_22 (fun r6 S5 => wp_X12_becomes a3 (((3 : Int32) + v5_22) - a2) r6 S5 (fun S7 => (∀ t8 : Int32, t8 = v5_22 + 1 → wl_X12_cuts_22 a1 a2 a3 r2 K_22 fu_22 t8 S7)))))
def wp_X12_cuts (a1 : Int32) (a2 : Int32) (a3 : Int32) (S : St) (Q : St → Prop) : Prop := wp_X12_its a1 (1 : Int32) S (fun r2 S1 => wp_X12_makes a3 (0 : Int32) (r2 - a2) (4 : Int32) S1 (fun S3 => (∃ m_22 : Nat, wl_X12_cuts_22 a1 a2 a3 r2 (fun e5_9 S10 => wp_X12_becomes a1 (1 : Int32) a2 S10 (fun S11 => Q S11)) m_22 a2 S3)))
set_option maxHeartbeats 4000000 in
set_option maxRecDepth 100000 in
theorem c_X12_cuts (l : Launch) (D : va_G) (kA : Nat → ClassId) (ly : Nat → Nat) (n : List Nat) (hn : ∀ c, c < 20 → c ∈ n) (A : Nat → Prop) (a1 : Int32) (a2 : Int32) (a3 : Int32) : Cv l yX12_cuts wsX12_cuts 2 48 (Gp D (Er kA ly) ly n A kA) A [.ref (ly 0), .int a1, .int a2, .int a3] (wp_X12_cuts a1 a2 a3) := by
  intro S Q
  refine Met.ofW (cc := cX12_cuts) (maxL := 6) (ret := none) (by decide) rfl ?_
  intro p e s m args below meth c s₁ B hml hv
  obtain ⟨rfl, ⟨hP, hD, hK, hN⟩, hw⟩ := hv
  have hx := B.exec
  have hb := B.bytes
  have hr := B.returns
  have hts := atoms_spec (ws := wsX12_cuts) B.pre
  have hown : s.vm.findClass RX12 = some m.cls := findClass_of_methodNamed B.named
  have hlocks := B.notSynchronized
  have hH : Hp D (Er kA ly) ly n A s.heap S s.heap [] := ⟨hP, hD, va_S.rf⟩
  have hl := lv_entry ([.ref (ly 0), .int a1, .int a2, .int a3]) (n := 6) (Nat.le_of_ble_eq_true rfl)
  rw [lg_entry_eq]
  generalize (lg_sl ([.ref (ly 0), .int a1, .int a2, .int a3]) ++ List.replicate (6 - (lg_sl ([.ref (ly 0), .int a1, .int a2, .int a3])).length) Slot.unset).toArray = ls at hl ⊢
  have hl : lv_has ls 6 [(0, .ref (ly 0)), (1, .int a1), (2, .int a2), (3, .int a3)] := hl
  rw [wp_X12_cuts] at hw
  refine lv_aload_n hx hb dX12_cuts_0 rfl (lv_at hl 0 rfl) ?_
  refine lv_iload_n hx hb dX12_cuts_1 rfl (lv_at hl 1 rfl) ?_
  refine lv_iconst (v := 1) hx hb dX12_cuts_2 (by decide +kernel) ?_
  refine k_afti (va_runV (As := [.int a1, .int (1 : Int32)]) (rest := []) ⟨hx, hb, hml, hown, hts⟩ (c_X12_its l D kA ly n hn A a1 (1 : Int32) S _) (cwV 2 hts gX12_cuts_X12_its rfl rfl rfl (by decide +kernel) ⟨(Nat.le_of_ble_eq_true rfl), (Nat.le_of_ble_eq_true rfl)⟩) ⟨k_blind, (k_recv hK hH (hn _ (by decide)) Er_0 rfl), k_pre hK hN hH hw⟩ rfl rfl hl.1 rfl (lv_room (Nat.le_of_ble_eq_true rfl)) dX12_cuts_3 ⟨Nat.le_refl _, Nat.le_refl _⟩) hH (fun r2 S1 H locs hw hH => ?_)
  refine lv_istore (lv' := [(4, .int r2), (0, .ref (ly 0)), (1, .int a1), (2, .int a2), (3, .int a3)]) hx hb dX12_cuts_6 hl (by decide) rfl (fun ls hl => ?_)
  refine lv_aload_n hx hb dX12_cuts_8 rfl (lv_at hl 1 rfl) ?_
  refine lv_iload_n hx hb dX12_cuts_9 rfl (lv_at hl 4 rfl) ?_
  refine lv_iconst (v := 0) hx hb dX12_cuts_10 (by decide +kernel) ?_
  refine lv_iload hx hb dX12_cuts_11 (lv_at hl 0 rfl) ?_
  refine lv_iload_n hx hb dX12_cuts_13 rfl (lv_at hl 3 rfl) ?_
  refine lv_isub hx hb dX12_cuts_14 ?_
  refine lv_iconst (v := 4) hx hb dX12_cuts_15 (by decide +kernel) ?_
  refine k_aftv (va_runV (As := [.int a3, .int (0 : Int32), .int (r2 - a2), .int (4 : Int32)]) (rest := []) ⟨hx, hb, hml, hown, hts⟩ (c_X12_makes l D kA ly n hn A a3 (0 : Int32) (r2 - a2) (4 : Int32) S1 _) (cwV 4 hts gX12_cuts_X12_makes rfl rfl rfl (by decide +kernel) ⟨(Nat.le_of_ble_eq_true rfl), (Nat.le_of_ble_eq_true rfl)⟩) ⟨k_blind, (k_recv hK hH (hn _ (by decide)) Er_0 rfl), k_pre hK hN hH hw⟩ rfl rfl hl.1 rfl (lv_room (Nat.le_of_ble_eq_true rfl)) dX12_cuts_16 ⟨Nat.le_refl _, Nat.le_refl _⟩) hH (fun S3 H locs hw hH => ?_)
  refine lv_iload_n hx hb dX12_cuts_19 rfl (lv_at hl 3 rfl) ?_
  refine lv_istore (lv' := [(5, .int a2), (4, .int r2), (0, .ref (ly 0)), (1, .int a1), (2, .int a2), (3, .int a3)]) hx hb dX12_cuts_20 hl (by decide) rfl (fun ls hl => ?_)
  have L_22 : ∀ (K_22 : Int32 → St → Prop) (hk_22 : ∀ (v5_22 : Int32) (S_22 : St) (H : Heap) (locs : List Loc) (ls : Array Slot), K_22 v5_22 S_22 → Hp D (Er kA ly) ly n A s.heap S_22 H locs → lv_has ls 6 [(0, .ref (ly 0)), (1, .int a1), (2, .int a2), (3, .int a3), (4, .int r2), (5, .int v5_22)] → W p l e (headSpec wsX12_cuts { frames := 2, cells := 0, slots := 0, locals := 48 }).room s m [.ref (ly 0), .int a1, .int a2, .int a3].toArray below meth c H locs 0 0 (MQ below (va_Qv Q (Gp D (Er kA ly) ly n A kA) A) [.ref (ly 0), .int a1, .int a2, .int a3].toArray s 0 0 A) (F0 m 55 ls [])) (fu_22 : Nat) (v5_22 : Int32) (S_22 : St) (H : Heap) (locs : List Loc) (ls : Array Slot), wl_X12_cuts_22 a1 a2 a3 r2 K_22 fu_22 v5_22 S_22 → Hp D (Er kA ly) ly n A s.heap S_22 H locs → lv_has ls 6 [(0, .ref (ly 0)), (1, .int a1), (2, .int a2), (3, .int a3), (4, .int r2), (5, .int v5_22)] → W p l e (headSpec wsX12_cuts { frames := 2, cells := 0, slots := 0, locals := 48 }).room s m [.ref (ly 0), .int a1, .int a2, .int a3].toArray below meth c H locs 0 0 (MQ below (va_Qv Q (Gp D (Er kA ly) ly n A kA) A) [.ref (ly 0), .int a1, .int a2, .int a3].toArray s 0 0 A) (F0 m 22 ls []) := by
    intro K_22 hk_22 fu_22
    induction fu_22 with
    | zero => intro v5_22 S_22 H locs ls hw hH hl; rw [wl_X12_cuts_22] at hw; exact hw.elim
    | succ fu_22 ih_22 =>
      intro v5_22 S_22 H locs ls hw hH hl
      rw [wl_X12_cuts_22] at hw
      refine lv_iload hx hb dX12_cuts_22 (lv_at hl 5 rfl) ?_
      refine lv_iload hx hb dX12_cuts_24 (lv_at hl 4 rfl) ?_
      refine lv_icmp_ge (tgt := 55) hx hb dX12_cuts_26 (by decide) (fun hc4 => ?_) (fun hc4 => ?_)
      · replace hw := hw.1 hc4
        exact hk_22 v5_22 S_22 _ _ ls hw hH (lv_sub hl [0, 1, 2, 3, 4, 5] rfl)
      · replace hw := hw.2 hc4
        refine lv_aload_n hx hb dX12_cuts_29 rfl (lv_at hl 0 rfl) ?_
        refine lv_iload_n hx hb dX12_cuts_30 rfl (lv_at hl 3 rfl) ?_
        refine lv_iconst (v := 3) hx hb dX12_cuts_31 (by decide +kernel) ?_
        refine lv_iload hx hb dX12_cuts_32 (lv_at hl 5 rfl) ?_
        refine lv_iadd hx hb dX12_cuts_34 ?_
        refine lv_iload_n hx hb dX12_cuts_35 rfl (lv_at hl 2 rfl) ?_
        refine lv_isub hx hb dX12_cuts_36 ?_
        refine lv_aload_n hx hb dX12_cuts_37 rfl (lv_at hl 0 rfl) ?_
        refine lv_iload_n hx hb dX12_cuts_38 rfl (lv_at hl 1 rfl) ?_
        refine lv_iconst (v := 3) hx hb dX12_cuts_39 (by decide +kernel) ?_
        refine lv_iload hx hb dX12_cuts_40 (lv_at hl 5 rfl) ?_
        refine lv_iadd hx hb dX12_cuts_42 ?_
        refine k_afti (va_runV (As := [.int a1, .int ((3 : Int32) + v5_22)]) (rest := [.int (((3 : Int32) + v5_22) - a2), .int a3, .ref (ly 0)]) ⟨hx, hb, hml, hown, hts⟩ (c_X12_its l D kA ly n hn A a1 ((3 : Int32) + v5_22) S_22 _) (cwV 2 hts gX12_cuts_X12_its rfl rfl rfl (by decide +kernel) ⟨(Nat.le_of_ble_eq_true rfl), (Nat.le_of_ble_eq_true rfl)⟩) ⟨k_blind, (k_recv hK hH (hn _ (by decide)) Er_0 rfl), k_pre hK hN hH hw⟩ rfl rfl hl.1 rfl (lv_room (Nat.le_of_ble_eq_true rfl)) dX12_cuts_43 ⟨Nat.le_refl _, Nat.le_refl _⟩) hH (fun r6 S5 H locs hw hH => ?_)
        refine k_aftv (va_runV (As := [.int a3, .int (((3 : Int32) + v5_22) - a2), .int r6]) (rest := []) ⟨hx, hb, hml, hown, hts⟩ (c_X12_becomes l D kA ly n hn A a3 (((3 : Int32) + v5_22) - a2) r6 S5 _) (cwV 3 hts gX12_cuts_X12_becomes rfl rfl rfl (by decide +kernel) ⟨(Nat.le_of_ble_eq_true rfl), (Nat.le_of_ble_eq_true rfl)⟩) ⟨k_blind, (k_recv hK hH (hn _ (by decide)) Er_0 rfl), k_pre hK hN hH hw⟩ rfl rfl hl.1 rfl (lv_room (Nat.le_of_ble_eq_true rfl)) dX12_cuts_46 ⟨Nat.le_refl _, Nat.le_refl _⟩) hH (fun S7 H locs hw hH => ?_)
        obtain ⟨t8, et8⟩ : ∃ y : Int32, y = v5_22 + 1 := ⟨_, rfl⟩
        replace hw := hw t8 et8
        refine lv_iinc (v := t8) (lv' := [(5, .int t8), (0, .ref (ly 0)), (1, .int a1), (2, .int a2), (3, .int a3), (4, .int r2)]) hx hb dX12_cuts_49 hl (k := 5) rfl (by rw [et8]; rfl) (by decide) rfl (fun ls hl => ?_)
        refine lv_goto (tgt := 22) hx hb dX12_cuts_52 (by decide) ?_
        exact ih_22 t8 S7 _ _ ls hw hH (lv_sub hl [1, 2, 3, 4, 5, 0] rfl)
  obtain ⟨m_22, hw⟩ := hw
  refine L_22 _ (fun e5_9 S10 H locs ls hw hH hl => ?_) m_22 a2 S3 _ _ ls hw hH (lv_sub hl [2, 3, 4, 5, 1, 0] rfl)
  refine lv_aload_n hx hb dX12_cuts_55 rfl (lv_at hl 0 rfl) ?_
  refine lv_iload_n hx hb dX12_cuts_56 rfl (lv_at hl 1 rfl) ?_
  refine lv_iconst (v := 1) hx hb dX12_cuts_57 (by decide +kernel) ?_
  refine lv_iload_n hx hb dX12_cuts_58 rfl (lv_at hl 2 rfl) ?_
  refine k_aftv (va_runV (As := [.int a1, .int (1 : Int32), .int a2]) (rest := []) ⟨hx, hb, hml, hown, hts⟩ (c_X12_becomes l D kA ly n hn A a1 (1 : Int32) a2 S10 _) (cwV 3 hts gX12_cuts_X12_becomes rfl rfl rfl (by decide +kernel) ⟨(Nat.le_of_ble_eq_true rfl), (Nat.le_of_ble_eq_true rfl)⟩) ⟨k_blind, (k_recv hK hH (hn _ (by decide)) Er_0 rfl), k_pre hK hN hH hw⟩ rfl rfl hl.1 rfl (lv_room (Nat.le_of_ble_eq_true rfl)) dX12_cuts_59 ⟨Nat.le_refl _, Nat.le_refl _⟩) hH (fun S11 H locs hw hH => ?_)
  exact k_vret hx hb hr hlocks hK hN hH hw dX12_cuts_62
def wp_X12_cut (a1 : Int32) (a2 : Int32) (S : St) (Q : Int32 → St → Prop) : Prop := wp_X12_isPane a1 S (fun r2 S1 => ((r2 = 0 → Q (-1 : Int32) S1) ∧ (¬ r2 = 0 → (((1 : Int32) ≤ a2 → wp_X12_its a1 (1 : Int32) S1 (fun r6 S5 => ((a2 < r6 → (vp_in (1 : Int32) 232 ∧ (((gA S5 3 (1 : Int32).toNatClampNeg) = (6 : Int32) → Q (-2 : Int32) S5) ∧ (¬ (gA S5 3 (1 : Int32).toNatClampNeg) = (6 : Int32) → (vp_in (1 : Int32) 232 ∧ wp_X12_cuts a1 a2 (gA S5 3 (1 : Int32).toNatClampNeg) S5 (fun S11 => (vp_in (1 : Int32) 232 ∧ (vp_in (1 : Int32) 232 ∧ ∀ S14 : St, S14 = sA S11 3 (1 : Int32).toNatClampNeg ((gA S11 3 (1 : Int32).toNatClampNeg) + (1 : Int32)) → (vp_in (1 : Int32) 232 ∧ Q ((gA S14 3 (1 : Int32).toNatClampNeg) - (1 : Int32)) S14))))))))) ∧ (¬ a2 < r6 → Q (-4 : Int32) S5)))) ∧ (¬ (1 : Int32) ≤ a2 → Q (-1 : Int32) S1)))))
set_option maxHeartbeats 4000000 in
set_option maxRecDepth 100000 in
theorem c_X12_cut (l : Launch) (D : va_G) (kA : Nat → ClassId) (ly : Nat → Nat) (n : List Nat) (hn : ∀ c, c < 20 → c ∈ n) (A : Nat → Prop) (a1 : Int32) (a2 : Int32) : Ci l yX12_cut wsX12_cut 3 73 (Gp D (Er kA ly) ly n A kA) A [.ref (ly 0), .int a1, .int a2] (wp_X12_cut a1 a2) := by
  intro S Q
  refine Met.ofW (cc := cX12_cut) (maxL := 3) (ret := (some .int)) (by decide) rfl ?_
  intro p e s m args below meth c s₁ B hml hv
  obtain ⟨rfl, ⟨hP, hD, hK, hN⟩, hw⟩ := hv
  have hx := B.exec
  have hb := B.bytes
  have hr := B.returns
  have hts := atoms_spec (ws := wsX12_cut) B.pre
  have hown : s.vm.findClass RX12 = some m.cls := findClass_of_methodNamed B.named
  have hlocks := B.notSynchronized
  have hH : Hp D (Er kA ly) ly n A s.heap S s.heap [] := ⟨hP, hD, va_S.rf⟩
  have hiX12 : ∀ w ∈ u_ws RX12 TX12 39, w ∈ wsX12_cut := by decide +kernel
  have lk0 := hts (.fieldLink RX12 16 "SlowPanesModel" "row" "[I") (by decide +kernel)
  have hl := lv_entry ([.ref (ly 0), .int a1, .int a2]) (n := 3) (Nat.le_of_ble_eq_true rfl)
  rw [lg_entry_eq]
  generalize (lg_sl ([.ref (ly 0), .int a1, .int a2]) ++ List.replicate (3 - (lg_sl ([.ref (ly 0), .int a1, .int a2])).length) Slot.unset).toArray = ls at hl ⊢
  have hl : lv_has ls 3 [(0, .ref (ly 0)), (1, .int a1), (2, .int a2)] := hl
  rw [wp_X12_cut] at hw
  refine lv_aload_n hx hb dX12_cut_0 rfl (lv_at hl 0 rfl) ?_
  refine lv_iload_n hx hb dX12_cut_1 rfl (lv_at hl 1 rfl) ?_
  refine k_afti (va_runV (As := [.int a1]) (rest := []) ⟨hx, hb, hml, hown, hts⟩ (c_X12_isPane l D kA ly n hn A a1 S _) (cwV 1 hts gX12_cut_X12_isPane rfl rfl rfl (by decide +kernel) ⟨(Nat.le_of_ble_eq_true rfl), (Nat.le_of_ble_eq_true rfl)⟩) ⟨k_blind, (k_recv hK hH (hn _ (by decide)) Er_0 rfl), k_pre hK hN hH hw⟩ rfl rfl hl.1 rfl (lv_room (Nat.le_of_ble_eq_true rfl)) dX12_cut_2 ⟨Nat.le_refl _, Nat.le_refl _⟩) hH (fun r2 S1 H locs hw hH => ?_)
  refine lv_if_eq (tgt := 13) hx hb dX12_cut_5 (by decide) (fun hc3 => ?_) (fun hc3 => ?_)
  · replace hw := hw.1 hc3
    refine lv_iconst (v := -1) hx hb dX12_cut_13 (by decide +kernel) ?_
    exact k_iret hx hb hr hlocks hK hN hH hw dX12_cut_14
  · replace hw := hw.2 hc3
    refine lv_iload_n hx hb dX12_cut_8 rfl (lv_at hl 2 rfl) ?_
    refine lv_iconst (v := 1) hx hb dX12_cut_9 (by decide +kernel) ?_
    refine lv_icmp_ge (tgt := 15) hx hb dX12_cut_10 (by decide) (fun hc4 => ?_) (fun hc4 => ?_)
    · replace hw := hw.1 hc4
      refine lv_aload_n hx hb dX12_cut_15 rfl (lv_at hl 0 rfl) ?_
      refine lv_iload_n hx hb dX12_cut_16 rfl (lv_at hl 1 rfl) ?_
      refine lv_iconst (v := 1) hx hb dX12_cut_17 (by decide +kernel) ?_
      refine k_afti (va_runV (As := [.int a1, .int (1 : Int32)]) (rest := []) ⟨hx, hb, hml, hown, hts⟩ (c_X12_its l D kA ly n hn A a1 (1 : Int32) S1 _) (cwV 2 hts gX12_cut_X12_its rfl rfl rfl (by decide +kernel) ⟨(Nat.le_of_ble_eq_true rfl), (Nat.le_of_ble_eq_true rfl)⟩) ⟨k_blind, (k_recv hK hH (hn _ (by decide)) Er_0 rfl), k_pre hK hN hH hw⟩ rfl rfl hl.1 rfl (lv_room (Nat.le_of_ble_eq_true rfl)) dX12_cut_18 ⟨Nat.le_refl _, Nat.le_refl _⟩) hH (fun r6 S5 H locs hw hH => ?_)
      refine lv_iload_n hx hb dX12_cut_21 rfl (lv_at hl 2 rfl) ?_
      refine lv_icmp_gt (tgt := 28) hx hb dX12_cut_22 (by decide) (fun hc7 => ?_) (fun hc7 => ?_)
      · replace hw := hw.1 hc7
        refine lv_aload_n hx hb dX12_cut_28 rfl (lv_at hl 0 rfl) ?_
        refine gf_r_2 hx hb hts hiX12 hown hK hn hH lk0 dX12_cut_29 ?_
        refine lv_iconst (v := 1) hx hb dX12_cut_32 (by decide +kernel) ?_
        obtain ⟨hi_8, hw⟩ := hw
        refine k_ild hx hb hK hH (hn _ (by decide)) Er_3 hi_8 dX12_cut_33 ?_
        refine lv_bipush (v := 6) hx hb dX12_cut_34 (by decide +kernel) ?_
        refine lv_icmp_ne (tgt := 42) hx hb dX12_cut_36 (by decide) (fun hc9 => ?_) (fun hc9 => ?_)
        · replace hw := hw.2 hc9
          refine lv_aload_n hx hb dX12_cut_42 rfl (lv_at hl 0 rfl) ?_
          refine lv_iload_n hx hb dX12_cut_43 rfl (lv_at hl 1 rfl) ?_
          refine lv_iload_n hx hb dX12_cut_44 rfl (lv_at hl 2 rfl) ?_
          refine lv_aload_n hx hb dX12_cut_45 rfl (lv_at hl 0 rfl) ?_
          refine gf_r_2 hx hb hts hiX12 hown hK hn hH lk0 dX12_cut_46 ?_
          refine lv_iconst (v := 1) hx hb dX12_cut_49 (by decide +kernel) ?_
          obtain ⟨hi_10, hw⟩ := hw
          refine k_ild hx hb hK hH (hn _ (by decide)) Er_3 hi_10 dX12_cut_50 ?_
          refine k_aftv (va_runV (As := [.int a1, .int a2, .int (gA S5 3 (1 : Int32).toNatClampNeg)]) (rest := []) ⟨hx, hb, hml, hown, hts⟩ (c_X12_cuts l D kA ly n hn A a1 a2 (gA S5 3 (1 : Int32).toNatClampNeg) S5 _) (cwV 3 hts gX12_cut_X12_cuts rfl rfl rfl (by decide +kernel) ⟨(Nat.le_of_ble_eq_true rfl), (Nat.le_of_ble_eq_true rfl)⟩) ⟨k_blind, (k_recv hK hH (hn _ (by decide)) Er_0 rfl), k_pre hK hN hH hw⟩ rfl rfl hl.1 rfl (lv_room (Nat.le_of_ble_eq_true rfl)) dX12_cut_51 ⟨Nat.le_refl _, Nat.le_refl _⟩) hH (fun S11 H locs hw hH => ?_)
          refine lv_aload_n hx hb dX12_cut_54 rfl (lv_at hl 0 rfl) ?_
          refine gf_r_2 hx hb hts hiX12 hown hK hn hH lk0 dX12_cut_55 ?_
          refine lv_iconst (v := 1) hx hb dX12_cut_58 (by decide +kernel) ?_
          refine lv_dup2_11 hx hb dX12_cut_59 rfl rfl ?_
          obtain ⟨hi_12, hw⟩ := hw
          refine k_ild hx hb hK hH (hn _ (by decide)) Er_3 hi_12 dX12_cut_60 ?_
          refine lv_iconst (v := 1) hx hb dX12_cut_61 (by decide +kernel) ?_
          refine lv_iadd hx hb dX12_cut_62 ?_
          obtain ⟨hi_13, hw⟩ := hw
          refine k_ist hx hb hK hH (hn _ (by decide)) (fun _ => Er_3) hi_13 dX12_cut_63 (fun S14 H locs eS14 hH => ?_)
          replace hw := hw S14 eS14
          refine lv_aload_n hx hb dX12_cut_64 rfl (lv_at hl 0 rfl) ?_
          refine gf_r_2 hx hb hts hiX12 hown hK hn hH lk0 dX12_cut_65 ?_
          refine lv_iconst (v := 1) hx hb dX12_cut_68 (by decide +kernel) ?_
          obtain ⟨hi_15, hw⟩ := hw
          refine k_ild hx hb hK hH (hn _ (by decide)) Er_3 hi_15 dX12_cut_69 ?_
          refine lv_iconst (v := 1) hx hb dX12_cut_70 (by decide +kernel) ?_
          refine lv_isub hx hb dX12_cut_71 ?_
          exact k_iret hx hb hr hlocks hK hN hH hw dX12_cut_72
        · replace hw := hw.1 hc9
          refine lv_bipush (v := -2) hx hb dX12_cut_39 (by decide +kernel) ?_
          exact k_iret hx hb hr hlocks hK hN hH hw dX12_cut_41
      · replace hw := hw.2 hc7
        refine lv_bipush (v := -4) hx hb dX12_cut_25 (by decide +kernel) ?_
        exact k_iret hx hb hr hlocks hK hN hH hw dX12_cut_27
    · replace hw := hw.2 hc4
      refine lv_iconst (v := -1) hx hb dX12_cut_13 (by decide +kernel) ?_
      exact k_iret hx hb hr hlocks hK hN hH hw dX12_cut_14
def wl_X12_goes_17  (K_17 : Int32 → St → Prop) : Nat → Int32 → St → Prop
  | 0, _, _ => False
  | fu_17 + 1, v2_17, S_17 => (vp_in (1 : Int32) 232 ∧ ((((2 : Int32) + ((19 : Int32) * (gA S_17 3 (1 : Int32).toNatClampNeg))) ≤ v2_17 → K_17 v2_17 S_17) ∧ (¬ ((2 : Int32) + ((19 : Int32) * (gA S_17 3 (1 : Int32).toNatClampNeg))) ≤ v2_17 → (vp_in (v2_17 + (19 : Int32)) 232 ∧ (vp_in v2_17 232 ∧ ∀ S9 : St, S9 = sA S_17 3 v2_17.toNatClampNeg (gA S_17 3 (v2_17 + (19 : Int32)).toNatClampNeg) → (∀ t10 : Int32, t10 = v2_17 + 1 → wl_X12_goes_17 K_17 fu_17 t10 S9))))))
def wp_X12_goes (a1 : Int32) (S : St) (Q : St → Prop) : Prop := (vp_in (1 : Int32) 232 ∧ (vp_in (1 : Int32) 232 ∧ ∀ S3 : St, S3 = sA S 3 (1 : Int32).toNatClampNeg ((gA S 3 (1 : Int32).toNatClampNeg) - (1 : Int32)) → (∀ t4 : Int32, t4 = ((2 : Int32) + ((19 : Int32) * a1)) → (∃ m_17 : Nat, wl_X12_goes_17 (fun e2_11 S12 => Q S12) m_17 t4 S3))))
set_option maxHeartbeats 4000000 in
set_option maxRecDepth 100000 in
theorem c_X12_goes (l : Launch) (D : va_G) (kA : Nat → ClassId) (ly : Nat → Nat) (n : List Nat) (hn : ∀ c, c < 20 → c ∈ n) (A : Nat → Prop) (a1 : Int32) : Cv l yX12_goes wsX12_goes 0 0 (Gp D (Er kA ly) ly n A kA) A [.ref (ly 0), .int a1] (wp_X12_goes a1) := by
  intro S Q
  refine Met.ofW (cc := cX12_goes) (maxL := 3) (ret := none) (by decide) rfl ?_
  intro p e s m args below meth c s₁ B hml hv
  obtain ⟨rfl, ⟨hP, hD, hK, hN⟩, hw⟩ := hv
  have hx := B.exec
  have hb := B.bytes
  have hr := B.returns
  have hts := atoms_spec (ws := wsX12_goes) B.pre
  have hown : s.vm.findClass RX12 = some m.cls := findClass_of_methodNamed B.named
  have hlocks := B.notSynchronized
  have hH : Hp D (Er kA ly) ly n A s.heap S s.heap [] := ⟨hP, hD, va_S.rf⟩
  have hiX12 : ∀ w ∈ u_ws RX12 TX12 39, w ∈ wsX12_goes := by decide +kernel
  have lk0 := hts (.fieldLink RX12 16 "SlowPanesModel" "row" "[I") (by decide +kernel)
  have hl := lv_entry ([.ref (ly 0), .int a1]) (n := 3) (Nat.le_of_ble_eq_true rfl)
  rw [lg_entry_eq]
  generalize (lg_sl ([.ref (ly 0), .int a1]) ++ List.replicate (3 - (lg_sl ([.ref (ly 0), .int a1])).length) Slot.unset).toArray = ls at hl ⊢
  have hl : lv_has ls 3 [(0, .ref (ly 0)), (1, .int a1)] := hl
  rw [wp_X12_goes] at hw
  refine lv_aload_n hx hb dX12_goes_0 rfl (lv_at hl 0 rfl) ?_
  refine gf_r_2 hx hb hts hiX12 hown hK hn hH lk0 dX12_goes_1 ?_
  refine lv_iconst (v := 1) hx hb dX12_goes_4 (by decide +kernel) ?_
  refine lv_dup2_11 hx hb dX12_goes_5 rfl rfl ?_
  obtain ⟨hi_1, hw⟩ := hw
  refine k_ild hx hb hK hH (hn _ (by decide)) Er_3 hi_1 dX12_goes_6 ?_
  refine lv_iconst (v := 1) hx hb dX12_goes_7 (by decide +kernel) ?_
  refine lv_isub hx hb dX12_goes_8 ?_
  obtain ⟨hi_2, hw⟩ := hw
  refine k_ist hx hb hK hH (hn _ (by decide)) (fun _ => Er_3) hi_2 dX12_goes_9 (fun S3 H locs eS3 hH => ?_)
  replace hw := hw S3 eS3
  refine lv_iconst (v := 2) hx hb dX12_goes_10 (by decide +kernel) ?_
  refine lv_bipush (v := 19) hx hb dX12_goes_11 (by decide +kernel) ?_
  refine lv_iload_n hx hb dX12_goes_13 rfl (lv_at hl 1 rfl) ?_
  refine lv_imul hx hb dX12_goes_14 ?_
  refine lv_iadd hx hb dX12_goes_15 ?_
  refine lv_topi (fun t4 et4 => ?_)
  replace hw := hw t4 et4
  refine lv_istore_n (lv' := [(2, .int t4), (0, .ref (ly 0)), (1, .int a1)]) hx hb dX12_goes_16 rfl hl (by decide) rfl (fun ls hl => ?_)
  have L_17 : ∀ (K_17 : Int32 → St → Prop) (hk_17 : ∀ (v2_17 : Int32) (S_17 : St) (H : Heap) (locs : List Loc) (ls : Array Slot), K_17 v2_17 S_17 → Hp D (Er kA ly) ly n A s.heap S_17 H locs → lv_has ls 3 [(0, .ref (ly 0)), (1, .int a1), (2, .int v2_17)] → W p l e (headSpec wsX12_goes { frames := 0, cells := 0, slots := 0, locals := 0 }).room s m [.ref (ly 0), .int a1].toArray below meth c H locs 0 0 (MQ below (va_Qv Q (Gp D (Er kA ly) ly n A kA) A) [.ref (ly 0), .int a1].toArray s 0 0 A) (F0 m 53 ls [])) (fu_17 : Nat) (v2_17 : Int32) (S_17 : St) (H : Heap) (locs : List Loc) (ls : Array Slot), wl_X12_goes_17 K_17 fu_17 v2_17 S_17 → Hp D (Er kA ly) ly n A s.heap S_17 H locs → lv_has ls 3 [(0, .ref (ly 0)), (1, .int a1), (2, .int v2_17)] → W p l e (headSpec wsX12_goes { frames := 0, cells := 0, slots := 0, locals := 0 }).room s m [.ref (ly 0), .int a1].toArray below meth c H locs 0 0 (MQ below (va_Qv Q (Gp D (Er kA ly) ly n A kA) A) [.ref (ly 0), .int a1].toArray s 0 0 A) (F0 m 17 ls []) := by
    intro K_17 hk_17 fu_17
    induction fu_17 with
    | zero => intro v2_17 S_17 H locs ls hw hH hl; rw [wl_X12_goes_17] at hw; exact hw.elim
    | succ fu_17 ih_17 =>
      intro v2_17 S_17 H locs ls hw hH hl
      rw [wl_X12_goes_17] at hw
      refine lv_iload_n hx hb dX12_goes_17 rfl (lv_at hl 2 rfl) ?_
      refine lv_iconst (v := 2) hx hb dX12_goes_18 (by decide +kernel) ?_
      refine lv_bipush (v := 19) hx hb dX12_goes_19 (by decide +kernel) ?_
      refine lv_aload_n hx hb dX12_goes_21 rfl (lv_at hl 0 rfl) ?_
      refine gf_r_2 hx hb hts hiX12 hown hK hn hH lk0 dX12_goes_22 ?_
      refine lv_iconst (v := 1) hx hb dX12_goes_25 (by decide +kernel) ?_
      obtain ⟨hi_5, hw⟩ := hw
      refine k_ild hx hb hK hH (hn _ (by decide)) Er_3 hi_5 dX12_goes_26 ?_
      refine lv_imul hx hb dX12_goes_27 ?_
      refine lv_iadd hx hb dX12_goes_28 ?_
      refine lv_icmp_ge (tgt := 53) hx hb dX12_goes_29 (by decide) (fun hc6 => ?_) (fun hc6 => ?_)
      · replace hw := hw.1 hc6
        exact hk_17 v2_17 S_17 _ _ ls hw hH (lv_sub hl [0, 1, 2] rfl)
      · replace hw := hw.2 hc6
        refine lv_aload_n hx hb dX12_goes_32 rfl (lv_at hl 0 rfl) ?_
        refine gf_r_2 hx hb hts hiX12 hown hK hn hH lk0 dX12_goes_33 ?_
        refine lv_iload_n hx hb dX12_goes_36 rfl (lv_at hl 2 rfl) ?_
        refine lv_aload_n hx hb dX12_goes_37 rfl (lv_at hl 0 rfl) ?_
        refine gf_r_2 hx hb hts hiX12 hown hK hn hH lk0 dX12_goes_38 ?_
        refine lv_iload_n hx hb dX12_goes_41 rfl (lv_at hl 2 rfl) ?_
        refine lv_bipush (v := 19) hx hb dX12_goes_42 (by decide +kernel) ?_
        refine lv_iadd hx hb dX12_goes_44 ?_
        obtain ⟨hi_7, hw⟩ := hw
        refine k_ild hx hb hK hH (hn _ (by decide)) Er_3 hi_7 dX12_goes_45 ?_
        obtain ⟨hi_8, hw⟩ := hw
        refine k_ist hx hb hK hH (hn _ (by decide)) (fun _ => Er_3) hi_8 dX12_goes_46 (fun S9 H locs eS9 hH => ?_)
        replace hw := hw S9 eS9
        obtain ⟨t10, et10⟩ : ∃ y : Int32, y = v2_17 + 1 := ⟨_, rfl⟩
        replace hw := hw t10 et10
        refine lv_iinc (v := t10) (lv' := [(2, .int t10), (0, .ref (ly 0)), (1, .int a1)]) hx hb dX12_goes_47 hl (k := 2) rfl (by rw [et10]; rfl) (by decide) rfl (fun ls hl => ?_)
        refine lv_goto (tgt := 17) hx hb dX12_goes_50 (by decide) ?_
        exact ih_17 t10 S9 _ _ ls hw hH (lv_sub hl [1, 2, 0] rfl)
  obtain ⟨m_17, hw⟩ := hw
  refine L_17 _ (fun e2_11 S12 H locs ls hw hH hl => ?_) m_17 t4 S3 _ _ ls hw hH (lv_sub hl [1, 2, 0] rfl)
  exact k_vret hx hb hr hlocks hK hN hH hw dX12_goes_53
def wl_X12_lay_53 (a1 : Int32) (a2 : Int32) (r9 : Int32) (r11 : Int32) (K_53 : Int32 → St → Prop) : Nat → Int32 → St → Prop
  | 0, _, _ => False
  | fu_53 + 1, v5_53, S_53 => ((r11 ≤ v5_53 → K_53 v5_53 S_53) ∧ (¬ r11 ≤ v5_53 → wp_X12_its a2 ((3 : Int32) + v5_53) S_53 (fun r15 S14 => wp_X12_becomes a1 (((3 : Int32) + r9) + v5_53) r15 S14 (fun S16 => (∀ t17 : Int32, t17 = v5_53 + 1 → wl_X12_lay_53 a1 a2 r9 r11 K_53 fu_53 t17 S16)))))
def wp_X12_lay (a1 : Int32) (a2 : Int32) (S : St) (Q : Int32 → St → Prop) : Prop := wp_X12_isPane a1 S (fun r2 S1 => ((r2 = 0 → Q (-1 : Int32) S1) ∧ (¬ r2 = 0 → wp_X12_isPane a2 S1 (fun r5 S4 => ((r5 = 0 → Q (-1 : Int32) S4) ∧ (¬ r5 = 0 → ((a1 = a2 → Q (-1 : Int32) S4) ∧ (¬ a1 = a2 → wp_X12_its a1 (1 : Int32) S4 (fun r9 S8 => wp_X12_its a2 (1 : Int32) S8 (fun r11 S10 => ((r9 ≤ ((16 : Int32) - r11) → (∃ m_53 : Nat, wl_X12_lay_53 a1 a2 r9 r11 (fun e5_18 S19 => wp_X12_becomes a1 (1 : Int32) (r9 + r11) S19 (fun S20 => wp_X12_goes a2 S20 (fun S21 => ((a1 ≤ a2 → Q a1 S21) ∧ (¬ a1 ≤ a2 → Q (a1 - (1 : Int32)) S21))))) m_53 (0 : Int32) S10)) ∧ (¬ r9 ≤ ((16 : Int32) - r11) → Q (-2 : Int32) S10))))))))))))
set_option maxHeartbeats 4000000 in
set_option maxRecDepth 100000 in
theorem c_X12_lay (l : Launch) (D : va_G) (kA : Nat → ClassId) (ly : Nat → Nat) (n : List Nat) (hn : ∀ c, c < 20 → c ∈ n) (A : Nat → Prop) (a1 : Int32) (a2 : Int32) : Ci l yX12_lay wsX12_lay 2 43 (Gp D (Er kA ly) ly n A kA) A [.ref (ly 0), .int a1, .int a2] (wp_X12_lay a1 a2) := by
  intro S Q
  refine Met.ofW (cc := cX12_lay) (maxL := 6) (ret := (some .int)) (by decide) rfl ?_
  intro p e s m args below meth c s₁ B hml hv
  obtain ⟨rfl, ⟨hP, hD, hK, hN⟩, hw⟩ := hv
  have hx := B.exec
  have hb := B.bytes
  have hr := B.returns
  have hts := atoms_spec (ws := wsX12_lay) B.pre
  have hown : s.vm.findClass RX12 = some m.cls := findClass_of_methodNamed B.named
  have hlocks := B.notSynchronized
  have hH : Hp D (Er kA ly) ly n A s.heap S s.heap [] := ⟨hP, hD, va_S.rf⟩
  have hl := lv_entry ([.ref (ly 0), .int a1, .int a2]) (n := 6) (Nat.le_of_ble_eq_true rfl)
  rw [lg_entry_eq]
  generalize (lg_sl ([.ref (ly 0), .int a1, .int a2]) ++ List.replicate (6 - (lg_sl ([.ref (ly 0), .int a1, .int a2])).length) Slot.unset).toArray = ls at hl ⊢
  have hl : lv_has ls 6 [(0, .ref (ly 0)), (1, .int a1), (2, .int a2)] := hl
  rw [wp_X12_lay] at hw
  refine lv_aload_n hx hb dX12_lay_0 rfl (lv_at hl 0 rfl) ?_
  refine lv_iload_n hx hb dX12_lay_1 rfl (lv_at hl 1 rfl) ?_
  refine k_afti (va_runV (As := [.int a1]) (rest := []) ⟨hx, hb, hml, hown, hts⟩ (c_X12_isPane l D kA ly n hn A a1 S _) (cwV 1 hts gX12_lay_X12_isPane rfl rfl rfl (by decide +kernel) ⟨(Nat.le_of_ble_eq_true rfl), (Nat.le_of_ble_eq_true rfl)⟩) ⟨k_blind, (k_recv hK hH (hn _ (by decide)) Er_0 rfl), k_pre hK hN hH hw⟩ rfl rfl hl.1 rfl (lv_room (Nat.le_of_ble_eq_true rfl)) dX12_lay_2 ⟨Nat.le_refl _, Nat.le_refl _⟩) hH (fun r2 S1 H locs hw hH => ?_)
  refine lv_if_eq (tgt := 21) hx hb dX12_lay_5 (by decide) (fun hc3 => ?_) (fun hc3 => ?_)
  · replace hw := hw.1 hc3
    refine lv_iconst (v := -1) hx hb dX12_lay_21 (by decide +kernel) ?_
    exact k_iret hx hb hr hlocks hK hN hH hw dX12_lay_22
  · replace hw := hw.2 hc3
    refine lv_aload_n hx hb dX12_lay_8 rfl (lv_at hl 0 rfl) ?_
    refine lv_iload_n hx hb dX12_lay_9 rfl (lv_at hl 2 rfl) ?_
    refine k_afti (va_runV (As := [.int a2]) (rest := []) ⟨hx, hb, hml, hown, hts⟩ (c_X12_isPane l D kA ly n hn A a2 S1 _) (cwV 1 hts gX12_lay_X12_isPane rfl rfl rfl (by decide +kernel) ⟨(Nat.le_of_ble_eq_true rfl), (Nat.le_of_ble_eq_true rfl)⟩) ⟨k_blind, (k_recv hK hH (hn _ (by decide)) Er_0 rfl), k_pre hK hN hH hw⟩ rfl rfl hl.1 rfl (lv_room (Nat.le_of_ble_eq_true rfl)) dX12_lay_10 ⟨Nat.le_refl _, Nat.le_refl _⟩) hH (fun r5 S4 H locs hw hH => ?_)
    refine lv_if_eq (tgt := 21) hx hb dX12_lay_13 (by decide) (fun hc6 => ?_) (fun hc6 => ?_)
    · replace hw := hw.1 hc6
      refine lv_iconst (v := -1) hx hb dX12_lay_21 (by decide +kernel) ?_
      exact k_iret hx hb hr hlocks hK hN hH hw dX12_lay_22
    · replace hw := hw.2 hc6
      refine lv_iload_n hx hb dX12_lay_16 rfl (lv_at hl 1 rfl) ?_
      refine lv_iload_n hx hb dX12_lay_17 rfl (lv_at hl 2 rfl) ?_
      refine lv_icmp_ne (tgt := 23) hx hb dX12_lay_18 (by decide) (fun hc7 => ?_) (fun hc7 => ?_)
      · replace hw := hw.2 hc7
        refine lv_aload_n hx hb dX12_lay_23 rfl (lv_at hl 0 rfl) ?_
        refine lv_iload_n hx hb dX12_lay_24 rfl (lv_at hl 1 rfl) ?_
        refine lv_iconst (v := 1) hx hb dX12_lay_25 (by decide +kernel) ?_
        refine k_afti (va_runV (As := [.int a1, .int (1 : Int32)]) (rest := []) ⟨hx, hb, hml, hown, hts⟩ (c_X12_its l D kA ly n hn A a1 (1 : Int32) S4 _) (cwV 2 hts gX12_lay_X12_its rfl rfl rfl (by decide +kernel) ⟨(Nat.le_of_ble_eq_true rfl), (Nat.le_of_ble_eq_true rfl)⟩) ⟨k_blind, (k_recv hK hH (hn _ (by decide)) Er_0 rfl), k_pre hK hN hH hw⟩ rfl rfl hl.1 rfl (lv_room (Nat.le_of_ble_eq_true rfl)) dX12_lay_26 ⟨Nat.le_refl _, Nat.le_refl _⟩) hH (fun r9 S8 H locs hw hH => ?_)
        refine lv_istore_n (lv' := [(3, .int r9), (0, .ref (ly 0)), (1, .int a1), (2, .int a2)]) hx hb dX12_lay_29 rfl hl (by decide) rfl (fun ls hl => ?_)
        refine lv_aload_n hx hb dX12_lay_30 rfl (lv_at hl 1 rfl) ?_
        refine lv_iload_n hx hb dX12_lay_31 rfl (lv_at hl 3 rfl) ?_
        refine lv_iconst (v := 1) hx hb dX12_lay_32 (by decide +kernel) ?_
        refine k_afti (va_runV (As := [.int a2, .int (1 : Int32)]) (rest := []) ⟨hx, hb, hml, hown, hts⟩ (c_X12_its l D kA ly n hn A a2 (1 : Int32) S8 _) (cwV 2 hts gX12_lay_X12_its rfl rfl rfl (by decide +kernel) ⟨(Nat.le_of_ble_eq_true rfl), (Nat.le_of_ble_eq_true rfl)⟩) ⟨k_blind, (k_recv hK hH (hn _ (by decide)) Er_0 rfl), k_pre hK hN hH hw⟩ rfl rfl hl.1 rfl (lv_room (Nat.le_of_ble_eq_true rfl)) dX12_lay_33 ⟨Nat.le_refl _, Nat.le_refl _⟩) hH (fun r11 S10 H locs hw hH => ?_)
        refine lv_istore (lv' := [(4, .int r11), (3, .int r9), (0, .ref (ly 0)), (1, .int a1), (2, .int a2)]) hx hb dX12_lay_36 hl (by decide) rfl (fun ls hl => ?_)
        refine lv_iload_n hx hb dX12_lay_38 rfl (lv_at hl 1 rfl) ?_
        refine lv_bipush (v := 16) hx hb dX12_lay_39 (by decide +kernel) ?_
        refine lv_iload hx hb dX12_lay_41 (lv_at hl 0 rfl) ?_
        refine lv_isub hx hb dX12_lay_43 ?_
        refine lv_icmp_le (tgt := 50) hx hb dX12_lay_44 (by decide) (fun hc12 => ?_) (fun hc12 => ?_)
        · replace hw := hw.1 hc12
          refine lv_iconst (v := 0) hx hb dX12_lay_50 (by decide +kernel) ?_
          refine lv_istore (lv' := [(5, .int (0 : Int32)), (4, .int r11), (3, .int r9), (0, .ref (ly 0)), (1, .int a1), (2, .int a2)]) hx hb dX12_lay_51 hl (by decide) rfl (fun ls hl => ?_)
          have L_53 : ∀ (K_53 : Int32 → St → Prop) (hk_53 : ∀ (v5_53 : Int32) (S_53 : St) (H : Heap) (locs : List Loc) (ls : Array Slot), K_53 v5_53 S_53 → Hp D (Er kA ly) ly n A s.heap S_53 H locs → lv_has ls 6 [(0, .ref (ly 0)), (1, .int a1), (2, .int a2), (3, .int r9), (4, .int r11), (5, .int v5_53)] → W p l e (headSpec wsX12_lay { frames := 2, cells := 0, slots := 0, locals := 43 }).room s m [.ref (ly 0), .int a1, .int a2].toArray below meth c H locs 0 0 (MQ below (va_Qi Q (Gp D (Er kA ly) ly n A kA) A) [.ref (ly 0), .int a1, .int a2].toArray s 0 0 A) (F0 m 86 ls [])) (fu_53 : Nat) (v5_53 : Int32) (S_53 : St) (H : Heap) (locs : List Loc) (ls : Array Slot), wl_X12_lay_53 a1 a2 r9 r11 K_53 fu_53 v5_53 S_53 → Hp D (Er kA ly) ly n A s.heap S_53 H locs → lv_has ls 6 [(0, .ref (ly 0)), (1, .int a1), (2, .int a2), (3, .int r9), (4, .int r11), (5, .int v5_53)] → W p l e (headSpec wsX12_lay { frames := 2, cells := 0, slots := 0, locals := 43 }).room s m [.ref (ly 0), .int a1, .int a2].toArray below meth c H locs 0 0 (MQ below (va_Qi Q (Gp D (Er kA ly) ly n A kA) A) [.ref (ly 0), .int a1, .int a2].toArray s 0 0 A) (F0 m 53 ls []) := by
            intro K_53 hk_53 fu_53
            induction fu_53 with
            | zero => intro v5_53 S_53 H locs ls hw hH hl; rw [wl_X12_lay_53] at hw; exact hw.elim
            | succ fu_53 ih_53 =>
              intro v5_53 S_53 H locs ls hw hH hl
              rw [wl_X12_lay_53] at hw
              refine lv_iload hx hb dX12_lay_53 (lv_at hl 5 rfl) ?_
              refine lv_iload hx hb dX12_lay_55 (lv_at hl 4 rfl) ?_
              refine lv_icmp_ge (tgt := 86) hx hb dX12_lay_57 (by decide) (fun hc13 => ?_) (fun hc13 => ?_)
              · replace hw := hw.1 hc13
                exact hk_53 v5_53 S_53 _ _ ls hw hH (lv_sub hl [0, 1, 2, 3, 4, 5] rfl)
              · replace hw := hw.2 hc13
                refine lv_aload_n hx hb dX12_lay_60 rfl (lv_at hl 0 rfl) ?_
                refine lv_iload_n hx hb dX12_lay_61 rfl (lv_at hl 1 rfl) ?_
                refine lv_iconst (v := 3) hx hb dX12_lay_62 (by decide +kernel) ?_
                refine lv_iload_n hx hb dX12_lay_63 rfl (lv_at hl 3 rfl) ?_
                refine lv_iadd hx hb dX12_lay_64 ?_
                refine lv_iload hx hb dX12_lay_65 (lv_at hl 5 rfl) ?_
                refine lv_iadd hx hb dX12_lay_67 ?_
                refine lv_aload_n hx hb dX12_lay_68 rfl (lv_at hl 0 rfl) ?_
                refine lv_iload_n hx hb dX12_lay_69 rfl (lv_at hl 2 rfl) ?_
                refine lv_iconst (v := 3) hx hb dX12_lay_70 (by decide +kernel) ?_
                refine lv_iload hx hb dX12_lay_71 (lv_at hl 5 rfl) ?_
                refine lv_iadd hx hb dX12_lay_73 ?_
                refine k_afti (va_runV (As := [.int a2, .int ((3 : Int32) + v5_53)]) (rest := [.int (((3 : Int32) + r9) + v5_53), .int a1, .ref (ly 0)]) ⟨hx, hb, hml, hown, hts⟩ (c_X12_its l D kA ly n hn A a2 ((3 : Int32) + v5_53) S_53 _) (cwV 2 hts gX12_lay_X12_its rfl rfl rfl (by decide +kernel) ⟨(Nat.le_of_ble_eq_true rfl), (Nat.le_of_ble_eq_true rfl)⟩) ⟨k_blind, (k_recv hK hH (hn _ (by decide)) Er_0 rfl), k_pre hK hN hH hw⟩ rfl rfl hl.1 rfl (lv_room (Nat.le_of_ble_eq_true rfl)) dX12_lay_74 ⟨Nat.le_refl _, Nat.le_refl _⟩) hH (fun r15 S14 H locs hw hH => ?_)
                refine k_aftv (va_runV (As := [.int a1, .int (((3 : Int32) + r9) + v5_53), .int r15]) (rest := []) ⟨hx, hb, hml, hown, hts⟩ (c_X12_becomes l D kA ly n hn A a1 (((3 : Int32) + r9) + v5_53) r15 S14 _) (cwV 3 hts gX12_lay_X12_becomes rfl rfl rfl (by decide +kernel) ⟨(Nat.le_of_ble_eq_true rfl), (Nat.le_of_ble_eq_true rfl)⟩) ⟨k_blind, (k_recv hK hH (hn _ (by decide)) Er_0 rfl), k_pre hK hN hH hw⟩ rfl rfl hl.1 rfl (lv_room (Nat.le_of_ble_eq_true rfl)) dX12_lay_77 ⟨Nat.le_refl _, Nat.le_refl _⟩) hH (fun S16 H locs hw hH => ?_)
                obtain ⟨t17, et17⟩ : ∃ y : Int32, y = v5_53 + 1 := ⟨_, rfl⟩
                replace hw := hw t17 et17
                refine lv_iinc (v := t17) (lv' := [(5, .int t17), (0, .ref (ly 0)), (1, .int a1), (2, .int a2), (3, .int r9), (4, .int r11)]) hx hb dX12_lay_80 hl (k := 5) rfl (by rw [et17]; rfl) (by decide) rfl (fun ls hl => ?_)
                refine lv_goto (tgt := 53) hx hb dX12_lay_83 (by decide) ?_
                exact ih_53 t17 S16 _ _ ls hw hH (lv_sub hl [1, 2, 3, 4, 5, 0] rfl)
          obtain ⟨m_53, hw⟩ := hw
          refine L_53 _ (fun e5_18 S19 H locs ls hw hH hl => ?_) m_53 (0 : Int32) S10 _ _ ls hw hH (lv_sub hl [3, 4, 5, 2, 1, 0] rfl)
          refine lv_aload_n hx hb dX12_lay_86 rfl (lv_at hl 0 rfl) ?_
          refine lv_iload_n hx hb dX12_lay_87 rfl (lv_at hl 1 rfl) ?_
          refine lv_iconst (v := 1) hx hb dX12_lay_88 (by decide +kernel) ?_
          refine lv_iload_n hx hb dX12_lay_89 rfl (lv_at hl 3 rfl) ?_
          refine lv_iload hx hb dX12_lay_90 (lv_at hl 4 rfl) ?_
          refine lv_iadd hx hb dX12_lay_92 ?_
          refine k_aftv (va_runV (As := [.int a1, .int (1 : Int32), .int (r9 + r11)]) (rest := []) ⟨hx, hb, hml, hown, hts⟩ (c_X12_becomes l D kA ly n hn A a1 (1 : Int32) (r9 + r11) S19 _) (cwV 3 hts gX12_lay_X12_becomes rfl rfl rfl (by decide +kernel) ⟨(Nat.le_of_ble_eq_true rfl), (Nat.le_of_ble_eq_true rfl)⟩) ⟨k_blind, (k_recv hK hH (hn _ (by decide)) Er_0 rfl), k_pre hK hN hH hw⟩ rfl rfl hl.1 rfl (lv_room (Nat.le_of_ble_eq_true rfl)) dX12_lay_93 ⟨Nat.le_refl _, Nat.le_refl _⟩) hH (fun S20 H locs hw hH => ?_)
          refine lv_aload_n hx hb dX12_lay_96 rfl (lv_at hl 0 rfl) ?_
          refine lv_iload_n hx hb dX12_lay_97 rfl (lv_at hl 2 rfl) ?_
          refine k_aftv (va_runV (As := [.int a2]) (rest := []) ⟨hx, hb, hml, hown, hts⟩ (c_X12_goes l D kA ly n hn A a2 S20 _) (cwV 1 hts gX12_lay_X12_goes rfl rfl rfl (by decide +kernel) ⟨(Nat.le_of_ble_eq_true rfl), (Nat.le_of_ble_eq_true rfl)⟩) ⟨k_blind, (k_recv hK hH (hn _ (by decide)) Er_0 rfl), k_pre hK hN hH hw⟩ rfl rfl hl.1 rfl (lv_room (Nat.le_of_ble_eq_true rfl)) dX12_lay_98 ⟨Nat.le_refl _, Nat.le_refl _⟩) hH (fun S21 H locs hw hH => ?_)
          refine lv_iload_n hx hb dX12_lay_101 rfl (lv_at hl 2 rfl) ?_
          refine lv_iload_n hx hb dX12_lay_102 rfl (lv_at hl 1 rfl) ?_
          refine lv_icmp_ge (tgt := 112) hx hb dX12_lay_103 (by decide) (fun hc22 => ?_) (fun hc22 => ?_)
          · replace hw := hw.1 hc22
            refine lv_iload_n hx hb dX12_lay_112 rfl (lv_at hl 1 rfl) ?_
            exact k_iret hx hb hr hlocks hK hN hH hw dX12_lay_113
          · replace hw := hw.2 hc22
            refine lv_iload_n hx hb dX12_lay_106 rfl (lv_at hl 1 rfl) ?_
            refine lv_iconst (v := 1) hx hb dX12_lay_107 (by decide +kernel) ?_
            refine lv_isub hx hb dX12_lay_108 ?_
            refine lv_goto (tgt := 113) hx hb dX12_lay_109 (by decide) ?_
            exact k_iret hx hb hr hlocks hK hN hH hw dX12_lay_113
        · replace hw := hw.2 hc12
          refine lv_bipush (v := -2) hx hb dX12_lay_47 (by decide +kernel) ?_
          exact k_iret hx hb hr hlocks hK hN hH hw dX12_lay_49
      · replace hw := hw.1 hc7
        refine lv_iconst (v := -1) hx hb dX12_lay_21 (by decide +kernel) ?_
        exact k_iret hx hb hr hlocks hK hN hH hw dX12_lay_22
def wp_X12_drop (a1 : Int32) (S : St) (Q : Int32 → St → Prop) : Prop := wp_X12_isPane a1 S (fun r2 S1 => ((r2 = 0 → Q (-1 : Int32) S1) ∧ (¬ r2 = 0 → wp_X12_goes a1 S1 (fun S4 => (vp_in (1 : Int32) 232 ∧ Q (gA S4 3 (1 : Int32).toNatClampNeg) S4)))))
set_option maxHeartbeats 4000000 in
set_option maxRecDepth 100000 in
theorem c_X12_drop (l : Launch) (D : va_G) (kA : Nat → ClassId) (ly : Nat → Nat) (n : List Nat) (hn : ∀ c, c < 20 → c ∈ n) (A : Nat → Prop) (a1 : Int32) : Ci l yX12_drop wsX12_drop 2 43 (Gp D (Er kA ly) ly n A kA) A [.ref (ly 0), .int a1] (wp_X12_drop a1) := by
  intro S Q
  refine Met.ofW (cc := cX12_drop) (maxL := 2) (ret := (some .int)) (by decide) rfl ?_
  intro p e s m args below meth c s₁ B hml hv
  obtain ⟨rfl, ⟨hP, hD, hK, hN⟩, hw⟩ := hv
  have hx := B.exec
  have hb := B.bytes
  have hr := B.returns
  have hts := atoms_spec (ws := wsX12_drop) B.pre
  have hown : s.vm.findClass RX12 = some m.cls := findClass_of_methodNamed B.named
  have hlocks := B.notSynchronized
  have hH : Hp D (Er kA ly) ly n A s.heap S s.heap [] := ⟨hP, hD, va_S.rf⟩
  have hiX12 : ∀ w ∈ u_ws RX12 TX12 39, w ∈ wsX12_drop := by decide +kernel
  have lk0 := hts (.fieldLink RX12 16 "SlowPanesModel" "row" "[I") (by decide +kernel)
  have hl := lv_entry ([.ref (ly 0), .int a1]) (n := 2) (Nat.le_of_ble_eq_true rfl)
  rw [lg_entry_eq]
  generalize (lg_sl ([.ref (ly 0), .int a1]) ++ List.replicate (2 - (lg_sl ([.ref (ly 0), .int a1])).length) Slot.unset).toArray = ls at hl ⊢
  have hl : lv_has ls 2 [(0, .ref (ly 0)), (1, .int a1)] := hl
  rw [wp_X12_drop] at hw
  refine lv_aload_n hx hb dX12_drop_0 rfl (lv_at hl 0 rfl) ?_
  refine lv_iload_n hx hb dX12_drop_1 rfl (lv_at hl 1 rfl) ?_
  refine k_afti (va_runV (As := [.int a1]) (rest := []) ⟨hx, hb, hml, hown, hts⟩ (c_X12_isPane l D kA ly n hn A a1 S _) (cwV 1 hts gX12_drop_X12_isPane rfl rfl rfl (by decide +kernel) ⟨(Nat.le_of_ble_eq_true rfl), (Nat.le_of_ble_eq_true rfl)⟩) ⟨k_blind, (k_recv hK hH (hn _ (by decide)) Er_0 rfl), k_pre hK hN hH hw⟩ rfl rfl hl.1 rfl (lv_room (Nat.le_of_ble_eq_true rfl)) dX12_drop_2 ⟨Nat.le_refl _, Nat.le_refl _⟩) hH (fun r2 S1 H locs hw hH => ?_)
  refine lv_if_ne (tgt := 10) hx hb dX12_drop_5 (by decide) (fun hc3 => ?_) (fun hc3 => ?_)
  · replace hw := hw.2 hc3
    refine lv_aload_n hx hb dX12_drop_10 rfl (lv_at hl 0 rfl) ?_
    refine lv_iload_n hx hb dX12_drop_11 rfl (lv_at hl 1 rfl) ?_
    refine k_aftv (va_runV (As := [.int a1]) (rest := []) ⟨hx, hb, hml, hown, hts⟩ (c_X12_goes l D kA ly n hn A a1 S1 _) (cwV 1 hts gX12_drop_X12_goes rfl rfl rfl (by decide +kernel) ⟨(Nat.le_of_ble_eq_true rfl), (Nat.le_of_ble_eq_true rfl)⟩) ⟨k_blind, (k_recv hK hH (hn _ (by decide)) Er_0 rfl), k_pre hK hN hH hw⟩ rfl rfl hl.1 rfl (lv_room (Nat.le_of_ble_eq_true rfl)) dX12_drop_12 ⟨Nat.le_refl _, Nat.le_refl _⟩) hH (fun S4 H locs hw hH => ?_)
    refine lv_aload_n hx hb dX12_drop_15 rfl (lv_at hl 0 rfl) ?_
    refine gf_r_2 hx hb hts hiX12 hown hK hn hH lk0 dX12_drop_16 ?_
    refine lv_iconst (v := 1) hx hb dX12_drop_19 (by decide +kernel) ?_
    obtain ⟨hi_5, hw⟩ := hw
    refine k_ild hx hb hK hH (hn _ (by decide)) Er_3 hi_5 dX12_drop_20 ?_
    exact k_iret hx hb hr hlocks hK hN hH hw dX12_drop_21
  · replace hw := hw.1 hc3
    refine lv_iconst (v := -1) hx hb dX12_drop_8 (by decide +kernel) ?_
    exact k_iret hx hb hr hlocks hK hN hH hw dX12_drop_9
def wl_X12_lends_7  (K_7 : Int32 → St → Prop) : Nat → Int32 → St → Prop
  | 0, _, _ => False
  | fu_7 + 1, v1_7, S_7 => (((116 : Int32) ≤ v1_7 → K_7 v1_7 S_7) ∧ (¬ (116 : Int32) ≤ v1_7 → (vp_in v1_7 232 ∧ (vp_in ((116 : Int32) + v1_7) 232 ∧ ∀ S5 : St, S5 = sA S_7 3 ((116 : Int32) + v1_7).toNatClampNeg (gA S_7 3 v1_7.toNatClampNeg) → (∀ t6 : Int32, t6 = v1_7 + 1 → wl_X12_lends_7 K_7 fu_7 t6 S5)))))
def wp_X12_lends  (S : St) (Q : St → Prop) : Prop := (∀ S1 : St, S1 = sI S 0 3 (0 : Int32) → (∃ m_7 : Nat, wl_X12_lends_7 (fun e1_7 S8 => (∀ S9 : St, S9 = sI S8 0 3 (116 : Int32) → Q S9)) m_7 (0 : Int32) S1))
set_option maxHeartbeats 4000000 in
set_option maxRecDepth 100000 in
theorem c_X12_lends (l : Launch) (D : va_G) (kA : Nat → ClassId) (ly : Nat → Nat) (n : List Nat) (hn : ∀ c, c < 20 → c ∈ n) (A : Nat → Prop)  : Cv l yX12_lends wsX12_lends 0 0 (Gp D (Er kA ly) ly n A kA) A [.ref (ly 0)] (wp_X12_lends) := by
  intro S Q
  refine Met.ofW (cc := cX12_lends) (maxL := 2) (ret := none) (by decide) rfl ?_
  intro p e s m args below meth c s₁ B hml hv
  obtain ⟨rfl, ⟨hP, hD, hK, hN⟩, hw⟩ := hv
  have hx := B.exec
  have hb := B.bytes
  have hr := B.returns
  have hts := atoms_spec (ws := wsX12_lends) B.pre
  have hown : s.vm.findClass RX12 = some m.cls := findClass_of_methodNamed B.named
  have hlocks := B.notSynchronized
  have hH : Hp D (Er kA ly) ly n A s.heap S s.heap [] := ⟨hP, hD, va_S.rf⟩
  have hiX12 : ∀ w ∈ u_ws RX12 TX12 39, w ∈ wsX12_lends := by decide +kernel
  have lk0 := hts (.fieldLink RX12 76 "SlowPanesModel" "at" "I") (by decide +kernel)
  have lk1 := hts (.fieldLink RX12 16 "SlowPanesModel" "row" "[I") (by decide +kernel)
  have hl := lv_entry ([.ref (ly 0)]) (n := 2) (Nat.le_of_ble_eq_true rfl)
  rw [lg_entry_eq]
  generalize (lg_sl ([.ref (ly 0)]) ++ List.replicate (2 - (lg_sl ([.ref (ly 0)])).length) Slot.unset).toArray = ls at hl ⊢
  have hl : lv_has ls 2 [(0, .ref (ly 0))] := hl
  rw [wp_X12_lends] at hw
  refine lv_aload_n hx hb dX12_lends_0 rfl (lv_at hl 0 rfl) ?_
  refine lv_iconst (v := 0) hx hb dX12_lends_1 (by decide +kernel) ?_
  refine pf_r_3 hx hb hts hiX12 hown hK hn hH lk0 dX12_lends_2 (fun S1 H locs eS1 hH => ?_)
  replace hw := hw S1 eS1
  refine lv_iconst (v := 0) hx hb dX12_lends_5 (by decide +kernel) ?_
  refine lv_istore_n (lv' := [(1, .int (0 : Int32)), (0, .ref (ly 0))]) hx hb dX12_lends_6 rfl hl (by decide) rfl (fun ls hl => ?_)
  have L_7 : ∀ (K_7 : Int32 → St → Prop) (hk_7 : ∀ (v1_7 : Int32) (S_7 : St) (H : Heap) (locs : List Loc) (ls : Array Slot), K_7 v1_7 S_7 → Hp D (Er kA ly) ly n A s.heap S_7 H locs → lv_has ls 2 [(0, .ref (ly 0)), (1, .int v1_7)] → W p l e (headSpec wsX12_lends { frames := 0, cells := 0, slots := 0, locals := 0 }).room s m [.ref (ly 0)].toArray below meth c H locs 0 0 (MQ below (va_Qv Q (Gp D (Er kA ly) ly n A kA) A) [.ref (ly 0)].toArray s 0 0 A) (F0 m 34 ls [])) (fu_7 : Nat) (v1_7 : Int32) (S_7 : St) (H : Heap) (locs : List Loc) (ls : Array Slot), wl_X12_lends_7 K_7 fu_7 v1_7 S_7 → Hp D (Er kA ly) ly n A s.heap S_7 H locs → lv_has ls 2 [(0, .ref (ly 0)), (1, .int v1_7)] → W p l e (headSpec wsX12_lends { frames := 0, cells := 0, slots := 0, locals := 0 }).room s m [.ref (ly 0)].toArray below meth c H locs 0 0 (MQ below (va_Qv Q (Gp D (Er kA ly) ly n A kA) A) [.ref (ly 0)].toArray s 0 0 A) (F0 m 7 ls []) := by
    intro K_7 hk_7 fu_7
    induction fu_7 with
    | zero => intro v1_7 S_7 H locs ls hw hH hl; rw [wl_X12_lends_7] at hw; exact hw.elim
    | succ fu_7 ih_7 =>
      intro v1_7 S_7 H locs ls hw hH hl
      rw [wl_X12_lends_7] at hw
      refine lv_iload_n hx hb dX12_lends_7 rfl (lv_at hl 1 rfl) ?_
      refine lv_bipush (v := 116) hx hb dX12_lends_8 (by decide +kernel) ?_
      refine lv_icmp_ge (tgt := 34) hx hb dX12_lends_10 (by decide) (fun hc2 => ?_) (fun hc2 => ?_)
      · replace hw := hw.1 hc2
        exact hk_7 v1_7 S_7 _ _ ls hw hH (lv_sub hl [0, 1] rfl)
      · replace hw := hw.2 hc2
        refine lv_aload_n hx hb dX12_lends_13 rfl (lv_at hl 0 rfl) ?_
        refine gf_r_2 hx hb hts hiX12 hown hK hn hH lk1 dX12_lends_14 ?_
        refine lv_bipush (v := 116) hx hb dX12_lends_17 (by decide +kernel) ?_
        refine lv_iload_n hx hb dX12_lends_19 rfl (lv_at hl 1 rfl) ?_
        refine lv_iadd hx hb dX12_lends_20 ?_
        refine lv_aload_n hx hb dX12_lends_21 rfl (lv_at hl 0 rfl) ?_
        refine gf_r_2 hx hb hts hiX12 hown hK hn hH lk1 dX12_lends_22 ?_
        refine lv_iload_n hx hb dX12_lends_25 rfl (lv_at hl 1 rfl) ?_
        obtain ⟨hi_3, hw⟩ := hw
        refine k_ild hx hb hK hH (hn _ (by decide)) Er_3 hi_3 dX12_lends_26 ?_
        obtain ⟨hi_4, hw⟩ := hw
        refine k_ist hx hb hK hH (hn _ (by decide)) (fun _ => Er_3) hi_4 dX12_lends_27 (fun S5 H locs eS5 hH => ?_)
        replace hw := hw S5 eS5
        obtain ⟨t6, et6⟩ : ∃ y : Int32, y = v1_7 + 1 := ⟨_, rfl⟩
        replace hw := hw t6 et6
        refine lv_iinc (v := t6) (lv' := [(1, .int t6), (0, .ref (ly 0))]) hx hb dX12_lends_28 hl (k := 1) rfl (by rw [et6]; rfl) (by decide) rfl (fun ls hl => ?_)
        refine lv_goto (tgt := 7) hx hb dX12_lends_31 (by decide) ?_
        exact ih_7 t6 S5 _ _ ls hw hH (lv_sub hl [1, 0] rfl)
  obtain ⟨m_7, hw⟩ := hw
  refine L_7 _ (fun e1_7 S8 H locs ls hw hH hl => ?_) m_7 (0 : Int32) S1 _ _ ls hw hH (lv_sub hl [1, 0] rfl)
  refine lv_aload_n hx hb dX12_lends_34 rfl (lv_at hl 0 rfl) ?_
  refine lv_bipush (v := 116) hx hb dX12_lends_35 (by decide +kernel) ?_
  refine pf_r_3 hx hb hts hiX12 hown hK hn hH lk0 dX12_lends_37 (fun S9 H locs eS9 hH => ?_)
  replace hw := hw S9 eS9
  exact k_vret hx hb hr hlocks hK hN hH hw dX12_lends_40
