def wp_X12_viewBy (a1 : Int32) (S : St) (Q : Int32 → St → Prop) : Prop := ((0 ≤ a1 → (vp_in (((50 : Int32) * (a1 - a1 / (10 : Int32) * (10 : Int32))) + (a1 / (10 : Int32))) 200 ∧ Q (gA S 1 (((50 : Int32) * (a1 - a1 / (10 : Int32) * (10 : Int32))) + (a1 / (10 : Int32))).toNatClampNeg) S)) ∧ (¬ 0 ≤ a1 → Q (0 : Int32) S))
set_option maxHeartbeats 4000000 in
set_option maxRecDepth 100000 in
theorem c_X12_viewBy (l : Launch) (D : va_G) (kA : Nat → ClassId) (ly : Nat → Nat) (n : List Nat) (hn : ∀ c, c < 20 → c ∈ n) (A : Nat → Prop) (a1 : Int32) : Ci l yX12_viewBy wsX12_viewBy 0 0 (Gp D (Er kA ly) ly n A kA) A [.ref (ly 0), .int a1] (wp_X12_viewBy a1) := by
  intro S Q
  refine Met.ofW (cc := cX12_viewBy) (maxL := 2) (ret := (some .int)) (by decide) rfl ?_
  intro p e s m args below meth c s₁ B hml hv
  obtain ⟨rfl, ⟨hP, hD, hK, hN⟩, hw⟩ := hv
  have hx := B.exec
  have hb := B.bytes
  have hr := B.returns
  have hts := atoms_spec (ws := wsX12_viewBy) B.pre
  have hown : s.vm.findClass RX12 = some m.cls := findClass_of_methodNamed B.named
  have hlocks := B.notSynchronized
  have hH : Hp D (Er kA ly) ly n A s.heap S s.heap [] := ⟨hP, hD, va_S.rf⟩
  have hiX12 : ∀ w ∈ u_ws RX12 TX12 39, w ∈ wsX12_viewBy := by decide +kernel
  have lk0 := hts (.fieldLink RX12 7 "SlowPanesModel" "views" "[I") (by decide +kernel)
  have hl := lv_entry ([.ref (ly 0), .int a1]) (n := 2) (Nat.le_of_ble_eq_true rfl)
  rw [lg_entry_eq]
  generalize (lg_sl ([.ref (ly 0), .int a1]) ++ List.replicate (2 - (lg_sl ([.ref (ly 0), .int a1])).length) Slot.unset).toArray = ls at hl ⊢
  have hl : lv_has ls 2 [(0, .ref (ly 0)), (1, .int a1)] := hl
  rw [wp_X12_viewBy] at hw
  refine lv_iload_n hx hb dX12_viewBy_0 rfl (lv_at hl 1 rfl) ?_
  refine lv_if_ge (tgt := 8) hx hb dX12_viewBy_1 (by decide) (fun hc1 => ?_) (fun hc1 => ?_)
  · replace hw := hw.1 hc1
    refine lv_aload_n hx hb dX12_viewBy_8 rfl (lv_at hl 0 rfl) ?_
    refine gf_r_0 hx hb hts hiX12 hown hK hn hH lk0 dX12_viewBy_9 ?_
    refine lv_bipush (v := 50) hx hb dX12_viewBy_12 (by decide +kernel) ?_
    refine lv_iload_n hx hb dX12_viewBy_14 rfl (lv_at hl 1 rfl) ?_
    refine lv_bipush (v := 10) hx hb dX12_viewBy_15 (by decide +kernel) ?_
    refine lv_irem hx hb dX12_viewBy_17 (by decide) ?_
    refine lv_imul hx hb dX12_viewBy_18 ?_
    refine lv_iload_n hx hb dX12_viewBy_19 rfl (lv_at hl 1 rfl) ?_
    refine lv_bipush (v := 10) hx hb dX12_viewBy_20 (by decide +kernel) ?_
    refine lv_idiv hx hb dX12_viewBy_22 (by decide) ?_
    refine lv_iadd hx hb dX12_viewBy_23 ?_
    obtain ⟨hi_2, hw⟩ := hw
    refine k_ild hx hb hK hH (hn _ (by decide)) Er_1 hi_2 dX12_viewBy_24 ?_
    exact k_iret hx hb hr hlocks hK hN hH hw dX12_viewBy_25
  · replace hw := hw.2 hc1
    refine lv_iconst (v := 0) hx hb dX12_viewBy_4 (by decide +kernel) ?_
    refine lv_goto (tgt := 25) hx hb dX12_viewBy_5 (by decide) ?_
    exact k_iret hx hb hr hlocks hK hN hH hw dX12_viewBy_25
def wp_X12_shown (a1 : Int32) (S : St) (Q : Int32 → St → Prop) : Prop := wp_X12_its a1 (1 : Int32) S (fun r2 S1 => wp_X12_lastOf a1 S1 (fun r4 S3 => wp_X12_viewBy r4 S3 (fun r6 S5 => wp_X12_its a1 (0 : Int32) S5 (fun r8 S7 => ((r8 = 3 → Q (r6 / (2 : Int32)) S7) ∧ (¬ r8 = 3 → ((r8 = 4 → ((r2 ≤ (1 : Int32) → Q ((r6 / (2 : Int32)) + (0 : Int32)) S7) ∧ (¬ r2 ≤ (1 : Int32) → ((r2 ≤ (1 : Int32) → wp_X12_its a1 ((3 : Int32) + (0 : Int32)) S7 (fun r14 S13 => wp_X12_viewBy r14 S13 (fun r16 S15 => Q ((r6 / (2 : Int32)) + (r16 / (2 : Int32))) S15))) ∧ (¬ r2 ≤ (1 : Int32) → wp_X12_its a1 ((3 : Int32) + (r2 - (2 : Int32))) S7 (fun r18 S17 => wp_X12_viewBy r18 S17 (fun r20 S19 => Q ((r6 / (2 : Int32)) + (r20 / (2 : Int32))) S19))))))) ∧ (¬ r8 = 4 → ((r8 = 5 → wp_X12_lastOf a1 S7 (fun r23 S22 => ((0 ≤ r23 → Q ((99 : Int32) - r6) S22) ∧ (¬ 0 ≤ r23 → Q (0 : Int32) S22)))) ∧ (¬ r8 = 5 → Q r6 S7))))))))))
set_option maxHeartbeats 4000000 in
set_option maxRecDepth 100000 in
theorem c_X12_shown (l : Launch) (D : va_G) (kA : Nat → ClassId) (ly : Nat → Nat) (n : List Nat) (hn : ∀ c, c < 20 → c ∈ n) (A : Nat → Prop) (a1 : Int32) : Ci l yX12_shown wsX12_shown 2 43 (Gp D (Er kA ly) ly n A kA) A [.ref (ly 0), .int a1] (wp_X12_shown a1) := by
  intro S Q
  refine Met.ofW (cc := cX12_shown) (maxL := 4) (ret := (some .int)) (by decide) rfl ?_
  intro p e s m args below meth c s₁ B hml hv
  obtain ⟨rfl, ⟨hP, hD, hK, hN⟩, hw⟩ := hv
  have hx := B.exec
  have hb := B.bytes
  have hr := B.returns
  have hts := atoms_spec (ws := wsX12_shown) B.pre
  have hown : s.vm.findClass RX12 = some m.cls := findClass_of_methodNamed B.named
  have hlocks := B.notSynchronized
  have hH : Hp D (Er kA ly) ly n A s.heap S s.heap [] := ⟨hP, hD, va_S.rf⟩
  have hl := lv_entry ([.ref (ly 0), .int a1]) (n := 4) (Nat.le_of_ble_eq_true rfl)
  rw [lg_entry_eq]
  generalize (lg_sl ([.ref (ly 0), .int a1]) ++ List.replicate (4 - (lg_sl ([.ref (ly 0), .int a1])).length) Slot.unset).toArray = ls at hl ⊢
  have hl : lv_has ls 4 [(0, .ref (ly 0)), (1, .int a1)] := hl
  rw [wp_X12_shown] at hw
  refine lv_aload_n hx hb dX12_shown_0 rfl (lv_at hl 0 rfl) ?_
  refine lv_iload_n hx hb dX12_shown_1 rfl (lv_at hl 1 rfl) ?_
  refine lv_iconst (v := 1) hx hb dX12_shown_2 (by decide +kernel) ?_
  refine k_afti (va_runV (As := [.int a1, .int (1 : Int32)]) (rest := []) ⟨hx, hb, hml, hown, hts⟩ (c_X12_its l D kA ly n hn A a1 (1 : Int32) S _) (cwV 2 hts gX12_shown_X12_its rfl rfl rfl (by decide +kernel) ⟨(Nat.le_of_ble_eq_true rfl), (Nat.le_of_ble_eq_true rfl)⟩) ⟨k_blind, (k_recv hK hH (hn _ (by decide)) Er_0 rfl), k_pre hK hN hH hw⟩ rfl rfl hl.1 rfl (lv_room (Nat.le_of_ble_eq_true rfl)) dX12_shown_3 ⟨Nat.le_refl _, Nat.le_refl _⟩) hH (fun r2 S1 H locs hw hH => ?_)
  refine lv_istore_n (lv' := [(2, .int r2), (0, .ref (ly 0)), (1, .int a1)]) hx hb dX12_shown_6 rfl hl (by decide) rfl (fun ls hl => ?_)
  refine lv_aload_n hx hb dX12_shown_7 rfl (lv_at hl 1 rfl) ?_
  refine lv_aload_n hx hb dX12_shown_8 rfl (lv_at hl 1 rfl) ?_
  refine lv_iload_n hx hb dX12_shown_9 rfl (lv_at hl 2 rfl) ?_
  refine k_afti (va_runV (As := [.int a1]) (rest := [.ref (ly 0)]) ⟨hx, hb, hml, hown, hts⟩ (c_X12_lastOf l D kA ly n hn A a1 S1 _) (cwV 1 hts gX12_shown_X12_lastOf rfl rfl rfl (by decide +kernel) ⟨(Nat.le_of_ble_eq_true rfl), (Nat.le_of_ble_eq_true rfl)⟩) ⟨k_blind, (k_recv hK hH (hn _ (by decide)) Er_0 rfl), k_pre hK hN hH hw⟩ rfl rfl hl.1 rfl (lv_room (Nat.le_of_ble_eq_true rfl)) dX12_shown_10 ⟨Nat.le_refl _, Nat.le_refl _⟩) hH (fun r4 S3 H locs hw hH => ?_)
  refine k_afti (va_runV (As := [.int r4]) (rest := []) ⟨hx, hb, hml, hown, hts⟩ (c_X12_viewBy l D kA ly n hn A r4 S3 _) (cwV 1 hts gX12_shown_X12_viewBy rfl rfl rfl (by decide +kernel) ⟨(Nat.le_of_ble_eq_true rfl), (Nat.le_of_ble_eq_true rfl)⟩) ⟨k_blind, (k_recv hK hH (hn _ (by decide)) Er_0 rfl), k_pre hK hN hH hw⟩ rfl rfl hl.1 rfl (lv_room (Nat.le_of_ble_eq_true rfl)) dX12_shown_13 ⟨Nat.le_refl _, Nat.le_refl _⟩) hH (fun r6 S5 H locs hw hH => ?_)
  refine lv_istore_n (lv' := [(3, .int r6), (2, .int r2), (0, .ref (ly 0)), (1, .int a1)]) hx hb dX12_shown_16 rfl hl (by decide) rfl (fun ls hl => ?_)
  refine lv_aload_n hx hb dX12_shown_17 rfl (lv_at hl 2 rfl) ?_
  refine lv_iload_n hx hb dX12_shown_18 rfl (lv_at hl 3 rfl) ?_
  refine lv_iconst (v := 0) hx hb dX12_shown_19 (by decide +kernel) ?_
  refine k_afti (va_runV (As := [.int a1, .int (0 : Int32)]) (rest := []) ⟨hx, hb, hml, hown, hts⟩ (c_X12_its l D kA ly n hn A a1 (0 : Int32) S5 _) (cwV 2 hts gX12_shown_X12_its rfl rfl rfl (by decide +kernel) ⟨(Nat.le_of_ble_eq_true rfl), (Nat.le_of_ble_eq_true rfl)⟩) ⟨k_blind, (k_recv hK hH (hn _ (by decide)) Er_0 rfl), k_pre hK hN hH hw⟩ rfl rfl hl.1 rfl (lv_room (Nat.le_of_ble_eq_true rfl)) dX12_shown_20 ⟨Nat.le_refl _, Nat.le_refl _⟩) hH (fun r8 S7 H locs hw hH => ?_)
  by_cases hc9 : r8 = 3
  · replace hw := hw.1 hc9
    refine lv_tableIn (tgt := 48) hx hb dX12_shown_23 (by rw [hc9]; first | done | decide) (by rw [hc9]; first | done | decide) (by rw [hc9]; first | done | rfl) (by decide) ?_
    refine lv_iload_n hx hb dX12_shown_48 rfl (lv_at hl 0 rfl) ?_
    refine lv_iconst (v := 2) hx hb dX12_shown_49 (by decide +kernel) ?_
    refine lv_idiv hx hb dX12_shown_50 (by decide) ?_
    exact k_iret hx hb hr hlocks hK hN hH hw dX12_shown_51
  · replace hw := hw.2 hc9
    by_cases hc10 : r8 = 4
    · replace hw := hw.1 hc10
      refine lv_tableIn (tgt := 52) hx hb dX12_shown_23 (by rw [hc10]; first | done | decide) (by rw [hc10]; first | done | decide) (by rw [hc10]; first | done | rfl) (by decide) ?_
      refine lv_iload_n hx hb dX12_shown_52 rfl (lv_at hl 0 rfl) ?_
      refine lv_iconst (v := 2) hx hb dX12_shown_53 (by decide +kernel) ?_
      refine lv_idiv hx hb dX12_shown_54 (by decide) ?_
      refine lv_iload_n hx hb dX12_shown_55 rfl (lv_at hl 1 rfl) ?_
      refine lv_iconst (v := 1) hx hb dX12_shown_56 (by decide +kernel) ?_
      refine lv_icmp_le (tgt := 88) hx hb dX12_shown_57 (by decide) (fun hc11 => ?_) (fun hc11 => ?_)
      · replace hw := hw.1 hc11
        refine lv_iconst (v := 0) hx hb dX12_shown_88 (by decide +kernel) ?_
        refine lv_iadd hx hb dX12_shown_89 ?_
        exact k_iret hx hb hr hlocks hK hN hH hw dX12_shown_90
      · replace hw := hw.2 hc11
        refine lv_aload_n hx hb dX12_shown_60 rfl (lv_at hl 2 rfl) ?_
        refine lv_aload_n hx hb dX12_shown_61 rfl (lv_at hl 2 rfl) ?_
        refine lv_iload_n hx hb dX12_shown_62 rfl (lv_at hl 3 rfl) ?_
        refine lv_iconst (v := 3) hx hb dX12_shown_63 (by decide +kernel) ?_
        refine lv_iload_n hx hb dX12_shown_64 rfl (lv_at hl 1 rfl) ?_
        refine lv_iconst (v := 1) hx hb dX12_shown_65 (by decide +kernel) ?_
        refine lv_icmp_le (tgt := 75) hx hb dX12_shown_66 (by decide) (fun hc12 => ?_) (fun hc12 => ?_)
        · replace hw := hw.1 hc12
          refine lv_iconst (v := 0) hx hb dX12_shown_75 (by decide +kernel) ?_
          refine lv_iadd hx hb dX12_shown_76 ?_
          refine k_afti (va_runV (As := [.int a1, .int ((3 : Int32) + (0 : Int32))]) (rest := [.ref (ly 0), .int (r6 / (2 : Int32))]) ⟨hx, hb, hml, hown, hts⟩ (c_X12_its l D kA ly n hn A a1 ((3 : Int32) + (0 : Int32)) S7 _) (cwV 2 hts gX12_shown_X12_its rfl rfl rfl (by decide +kernel) ⟨(Nat.le_of_ble_eq_true rfl), (Nat.le_of_ble_eq_true rfl)⟩) ⟨k_blind, (k_recv hK hH (hn _ (by decide)) Er_0 rfl), k_pre hK hN hH hw⟩ rfl rfl hl.1 rfl (lv_room (Nat.le_of_ble_eq_true rfl)) dX12_shown_77 ⟨Nat.le_refl _, Nat.le_refl _⟩) hH (fun r14 S13 H locs hw hH => ?_)
          refine k_afti (va_runV (As := [.int r14]) (rest := [.int (r6 / (2 : Int32))]) ⟨hx, hb, hml, hown, hts⟩ (c_X12_viewBy l D kA ly n hn A r14 S13 _) (cwV 1 hts gX12_shown_X12_viewBy rfl rfl rfl (by decide +kernel) ⟨(Nat.le_of_ble_eq_true rfl), (Nat.le_of_ble_eq_true rfl)⟩) ⟨k_blind, (k_recv hK hH (hn _ (by decide)) Er_0 rfl), k_pre hK hN hH hw⟩ rfl rfl hl.1 rfl (lv_room (Nat.le_of_ble_eq_true rfl)) dX12_shown_80 ⟨Nat.le_refl _, Nat.le_refl _⟩) hH (fun r16 S15 H locs hw hH => ?_)
          refine lv_iconst (v := 2) hx hb dX12_shown_83 (by decide +kernel) ?_
          refine lv_idiv hx hb dX12_shown_84 (by decide) ?_
          refine lv_goto (tgt := 89) hx hb dX12_shown_85 (by decide) ?_
          refine lv_iadd hx hb dX12_shown_89 ?_
          exact k_iret hx hb hr hlocks hK hN hH hw dX12_shown_90
        · replace hw := hw.2 hc12
          refine lv_iload_n hx hb dX12_shown_69 rfl (lv_at hl 1 rfl) ?_
          refine lv_iconst (v := 2) hx hb dX12_shown_70 (by decide +kernel) ?_
          refine lv_isub hx hb dX12_shown_71 ?_
          refine lv_goto (tgt := 76) hx hb dX12_shown_72 (by decide) ?_
          refine lv_iadd hx hb dX12_shown_76 ?_
          refine k_afti (va_runV (As := [.int a1, .int ((3 : Int32) + (r2 - (2 : Int32)))]) (rest := [.ref (ly 0), .int (r6 / (2 : Int32))]) ⟨hx, hb, hml, hown, hts⟩ (c_X12_its l D kA ly n hn A a1 ((3 : Int32) + (r2 - (2 : Int32))) S7 _) (cwV 2 hts gX12_shown_X12_its rfl rfl rfl (by decide +kernel) ⟨(Nat.le_of_ble_eq_true rfl), (Nat.le_of_ble_eq_true rfl)⟩) ⟨k_blind, (k_recv hK hH (hn _ (by decide)) Er_0 rfl), k_pre hK hN hH hw⟩ rfl rfl hl.1 rfl (lv_room (Nat.le_of_ble_eq_true rfl)) dX12_shown_77 ⟨Nat.le_refl _, Nat.le_refl _⟩) hH (fun r18 S17 H locs hw hH => ?_)
          refine k_afti (va_runV (As := [.int r18]) (rest := [.int (r6 / (2 : Int32))]) ⟨hx, hb, hml, hown, hts⟩ (c_X12_viewBy l D kA ly n hn A r18 S17 _) (cwV 1 hts gX12_shown_X12_viewBy rfl rfl rfl (by decide +kernel) ⟨(Nat.le_of_ble_eq_true rfl), (Nat.le_of_ble_eq_true rfl)⟩) ⟨k_blind, (k_recv hK hH (hn _ (by decide)) Er_0 rfl), k_pre hK hN hH hw⟩ rfl rfl hl.1 rfl (lv_room (Nat.le_of_ble_eq_true rfl)) dX12_shown_80 ⟨Nat.le_refl _, Nat.le_refl _⟩) hH (fun r20 S19 H locs hw hH => ?_)
          refine lv_iconst (v := 2) hx hb dX12_shown_83 (by decide +kernel) ?_
          refine lv_idiv hx hb dX12_shown_84 (by decide) ?_
          refine lv_goto (tgt := 89) hx hb dX12_shown_85 (by decide) ?_
          refine lv_iadd hx hb dX12_shown_89 ?_
          exact k_iret hx hb hr hlocks hK hN hH hw dX12_shown_90
    · replace hw := hw.2 hc10
      by_cases hc21 : r8 = 5
      · replace hw := hw.1 hc21
        refine lv_tableIn (tgt := 91) hx hb dX12_shown_23 (by rw [hc21]; first | done | decide) (by rw [hc21]; first | done | decide) (by rw [hc21]; first | done | rfl) (by decide) ?_
        refine lv_aload_n hx hb dX12_shown_91 rfl (lv_at hl 2 rfl) ?_
        refine lv_iload_n hx hb dX12_shown_92 rfl (lv_at hl 3 rfl) ?_
        refine k_afti (va_runV (As := [.int a1]) (rest := []) ⟨hx, hb, hml, hown, hts⟩ (c_X12_lastOf l D kA ly n hn A a1 S7 _) (cwV 1 hts gX12_shown_X12_lastOf rfl rfl rfl (by decide +kernel) ⟨(Nat.le_of_ble_eq_true rfl), (Nat.le_of_ble_eq_true rfl)⟩) ⟨k_blind, (k_recv hK hH (hn _ (by decide)) Er_0 rfl), k_pre hK hN hH hw⟩ rfl rfl hl.1 rfl (lv_room (Nat.le_of_ble_eq_true rfl)) dX12_shown_93 ⟨Nat.le_refl _, Nat.le_refl _⟩) hH (fun r23 S22 H locs hw hH => ?_)
        refine lv_if_ge (tgt := 103) hx hb dX12_shown_96 (by decide) (fun hc24 => ?_) (fun hc24 => ?_)
        · replace hw := hw.1 hc24
          refine lv_bipush (v := 99) hx hb dX12_shown_103 (by decide +kernel) ?_
          refine lv_iload_n hx hb dX12_shown_105 rfl (lv_at hl 0 rfl) ?_
          refine lv_isub hx hb dX12_shown_106 ?_
          exact k_iret hx hb hr hlocks hK hN hH hw dX12_shown_107
        · replace hw := hw.2 hc24
          refine lv_iconst (v := 0) hx hb dX12_shown_99 (by decide +kernel) ?_
          refine lv_goto (tgt := 107) hx hb dX12_shown_100 (by decide) ?_
          exact k_iret hx hb hr hlocks hK hN hH hw dX12_shown_107
      · replace hw := hw.2 hc21
        refine lv_tableOut (tgt := 108) hx hb dX12_shown_23 (tb_out3_3 hc9 hc10 hc21) (by decide) ?_
        refine lv_iload_n hx hb dX12_shown_108 rfl (lv_at hl 0 rfl) ?_
        exact k_iret hx hb hr hlocks hK hN hH hw dX12_shown_109
def wp_X12_hung (a0 : Int32) (S : St) (Q : Int32 → St → Prop) : Prop := ((a0 = (4 : Int32) → Q (-9 : Int32) S) ∧ (¬ a0 = (4 : Int32) → Q a0 S))
set_option maxHeartbeats 4000000 in
set_option maxRecDepth 100000 in
theorem c_X12_hung (l : Launch) (D : va_G) (kA : Nat → ClassId) (ly : Nat → Nat) (n : List Nat) (hn : ∀ c, c < 20 → c ∈ n) (A : Nat → Prop) (a0 : Int32) : Ci l yX12_hung wsX12_hung 0 0 (Gp D (Er kA ly) ly n A kA) A [.int a0] (wp_X12_hung a0) := by
  intro S Q
  refine Met.ofW (cc := cX12_hung) (maxL := 1) (ret := (some .int)) (by decide) rfl ?_
  intro p e s m args below meth c s₁ B hml hv
  obtain ⟨rfl, ⟨hP, hD, hK, hN⟩, hw⟩ := hv
  have hx := B.exec
  have hb := B.bytes
  have hr := B.returns
  have hts := atoms_spec (ws := wsX12_hung) B.pre
  have hown : s.vm.findClass RX12 = some m.cls := findClass_of_methodNamed B.named
  have hlocks := B.notSynchronized
  have hH : Hp D (Er kA ly) ly n A s.heap S s.heap [] := ⟨hP, hD, va_S.rf⟩
  have hl := lv_entry ([.int a0]) (n := 1) (Nat.le_of_ble_eq_true rfl)
  rw [lg_entry_eq]
  generalize (lg_sl ([.int a0]) ++ List.replicate (1 - (lg_sl ([.int a0])).length) Slot.unset).toArray = ls at hl ⊢
  have hl : lv_has ls 1 [(0, .int a0)] := hl
  rw [wp_X12_hung] at hw
  refine lv_iload_n hx hb dX12_hung_0 rfl (lv_at hl 0 rfl) ?_
  refine lv_iconst (v := 4) hx hb dX12_hung_1 (by decide +kernel) ?_
  refine lv_icmp_ne (tgt := 10) hx hb dX12_hung_2 (by decide) (fun hc1 => ?_) (fun hc1 => ?_)
  · replace hw := hw.2 hc1
    refine lv_iload_n hx hb dX12_hung_10 rfl (lv_at hl 0 rfl) ?_
    exact k_iret hx hb hr hlocks hK hN hH hw dX12_hung_11
  · replace hw := hw.1 hc1
    refine lv_bipush (v := -9) hx hb dX12_hung_5 (by decide +kernel) ?_
    refine lv_goto (tgt := 11) hx hb dX12_hung_7 (by decide) ?_
    exact k_iret hx hb hr hlocks hK hN hH hw dX12_hung_11
def wp_X12_paneOf (a1 : Int32) (a2 : Int32) (S : St) (Q : Int32 → St → Prop) : Prop := wp_X12_isPane a1 S (fun r2 S1 => ((r2 = 0 → Q (-1 : Int32) S1) ∧ (¬ r2 = 0 → wp_X12_in a2 (0 : Int32) (4 : Int32) S1 (fun r5 S4 => ((r5 = 0 → Q (-1 : Int32) S4) ∧ (¬ r5 = 0 → ((a2 = 0 → wp_X12_its a1 (0 : Int32) S4 (fun r9 S8 => Q r9 S8)) ∧ (¬ a2 = 0 → ((a2 = 1 → wp_X12_its a1 (1 : Int32) S4 (fun r12 S11 => Q r12 S11)) ∧ (¬ a2 = 1 → ((a2 = 2 → wp_X12_its a1 (2 : Int32) S4 (fun r15 S14 => wp_X12_hung r15 S14 (fun r17 S16 => Q r17 S16))) ∧ (¬ a2 = 2 → ((a2 = 3 → wp_X12_shown a1 S4 (fun r20 S19 => Q r20 S19)) ∧ (¬ a2 = 3 → (vp_in (0 : Int32) 232 ∧ (((50 : Int32) ≤ (gA S4 3 (0 : Int32).toNatClampNeg) → Q (0 : Int32) S4) ∧ (¬ (50 : Int32) ≤ (gA S4 3 (0 : Int32).toNatClampNeg) → wp_X12_its a1 (0 : Int32) S4 (fun r24 S23 => (vp_in (0 : Int32) 232 ∧ wp_X12_movesBy r24 (gA S23 3 (0 : Int32).toNatClampNeg) S23 (fun r27 S26 => ((r27 = 0 → Q (0 : Int32) S26) ∧ (¬ r27 = 0 → Q (1 : Int32) S26))))))))))))))))))))))
set_option maxHeartbeats 4000000 in
set_option maxRecDepth 100000 in
theorem c_X12_paneOf (l : Launch) (D : va_G) (kA : Nat → ClassId) (ly : Nat → Nat) (n : List Nat) (hn : ∀ c, c < 20 → c ∈ n) (A : Nat → Prop) (a1 : Int32) (a2 : Int32) : Ci l yX12_paneOf wsX12_paneOf 3 66 (Gp D (Er kA ly) ly n A kA) A [.ref (ly 0), .int a1, .int a2] (wp_X12_paneOf a1 a2) := by
  intro S Q
  refine Met.ofW (cc := cX12_paneOf) (maxL := 3) (ret := (some .int)) (by decide) rfl ?_
  intro p e s m args below meth c s₁ B hml hv
  obtain ⟨rfl, ⟨hP, hD, hK, hN⟩, hw⟩ := hv
  have hx := B.exec
  have hb := B.bytes
  have hr := B.returns
  have hts := atoms_spec (ws := wsX12_paneOf) B.pre
  have hown : s.vm.findClass RX12 = some m.cls := findClass_of_methodNamed B.named
  have hlocks := B.notSynchronized
  have hH : Hp D (Er kA ly) ly n A s.heap S s.heap [] := ⟨hP, hD, va_S.rf⟩
  have hiX12 : ∀ w ∈ u_ws RX12 TX12 39, w ∈ wsX12_paneOf := by decide +kernel
  have lk0 := hts (.fieldLink RX12 16 "SlowPanesModel" "row" "[I") (by decide +kernel)
  have hl := lv_entry ([.ref (ly 0), .int a1, .int a2]) (n := 3) (Nat.le_of_ble_eq_true rfl)
  rw [lg_entry_eq]
  generalize (lg_sl ([.ref (ly 0), .int a1, .int a2]) ++ List.replicate (3 - (lg_sl ([.ref (ly 0), .int a1, .int a2])).length) Slot.unset).toArray = ls at hl ⊢
  have hl : lv_has ls 3 [(0, .ref (ly 0)), (1, .int a1), (2, .int a2)] := hl
  rw [wp_X12_paneOf] at hw
  refine lv_aload_n hx hb dX12_paneOf_0 rfl (lv_at hl 0 rfl) ?_
  refine lv_iload_n hx hb dX12_paneOf_1 rfl (lv_at hl 1 rfl) ?_
  refine k_afti (va_runV (As := [.int a1]) (rest := []) ⟨hx, hb, hml, hown, hts⟩ (c_X12_isPane l D kA ly n hn A a1 S _) (cwV 1 hts gX12_paneOf_X12_isPane rfl rfl rfl (by decide +kernel) ⟨(Nat.le_of_ble_eq_true rfl), (Nat.le_of_ble_eq_true rfl)⟩) ⟨k_blind, (k_recv hK hH (hn _ (by decide)) Er_0 rfl), k_pre hK hN hH hw⟩ rfl rfl hl.1 rfl (lv_room (Nat.le_of_ble_eq_true rfl)) dX12_paneOf_2 ⟨Nat.le_refl _, Nat.le_refl _⟩) hH (fun r2 S1 H locs hw hH => ?_)
  refine lv_if_eq (tgt := 17) hx hb dX12_paneOf_5 (by decide) (fun hc3 => ?_) (fun hc3 => ?_)
  · replace hw := hw.1 hc3
    refine lv_iconst (v := -1) hx hb dX12_paneOf_17 (by decide +kernel) ?_
    exact k_iret hx hb hr hlocks hK hN hH hw dX12_paneOf_18
  · replace hw := hw.2 hc3
    refine lv_iload_n hx hb dX12_paneOf_8 rfl (lv_at hl 2 rfl) ?_
    refine lv_iconst (v := 0) hx hb dX12_paneOf_9 (by decide +kernel) ?_
    refine lv_iconst (v := 4) hx hb dX12_paneOf_10 (by decide +kernel) ?_
    refine k_afti (va_runS (As := [.int a2, .int (0 : Int32), .int (4 : Int32)]) (rest := []) ⟨hx, hb, hml, hown, hts⟩ (c_X12_in l D kA ly n hn A a2 (0 : Int32) (4 : Int32) S1 _) (va_cwS 3 hts gX12_paneOf_X12_in rfl rfl rfl (by decide +kernel) ⟨(Nat.le_of_ble_eq_true rfl), (Nat.le_of_ble_eq_true rfl)⟩) ⟨k_blind, k_pre hK hN hH hw⟩ rfl rfl hl.1 rfl (lv_room (Nat.le_of_ble_eq_true rfl)) dX12_paneOf_11 ⟨Nat.le_refl _, Nat.le_refl _⟩) hH (fun r5 S4 H locs hw hH => ?_)
    refine lv_if_ne (tgt := 19) hx hb dX12_paneOf_14 (by decide) (fun hc6 => ?_) (fun hc6 => ?_)
    · replace hw := hw.2 hc6
      refine lv_iload_n hx hb dX12_paneOf_19 rfl (lv_at hl 2 rfl) ?_
      by_cases hc7 : a2 = 0
      · replace hw := hw.1 hc7
        refine lv_tableIn (tgt := 52) hx hb dX12_paneOf_20 (by rw [hc7]; first | done | decide) (by rw [hc7]; first | done | decide) (by rw [hc7]; first | done | rfl) (by decide) ?_
        refine lv_aload_n hx hb dX12_paneOf_52 rfl (lv_at hl 0 rfl) ?_
        refine lv_iload_n hx hb dX12_paneOf_53 rfl (lv_at hl 1 rfl) ?_
        refine lv_iconst (v := 0) hx hb dX12_paneOf_54 (by decide +kernel) ?_
        refine k_afti (va_runV (As := [.int a1, .int (0 : Int32)]) (rest := []) ⟨hx, hb, hml, hown, hts⟩ (c_X12_its l D kA ly n hn A a1 (0 : Int32) S4 _) (cwV 2 hts gX12_paneOf_X12_its rfl rfl rfl (by decide +kernel) ⟨(Nat.le_of_ble_eq_true rfl), (Nat.le_of_ble_eq_true rfl)⟩) ⟨k_blind, (k_recv hK hH (hn _ (by decide)) Er_0 rfl), k_pre hK hN hH hw⟩ rfl rfl hl.1 rfl (lv_room (Nat.le_of_ble_eq_true rfl)) dX12_paneOf_55 ⟨Nat.le_refl _, Nat.le_refl _⟩) hH (fun r9 S8 H locs hw hH => ?_)
        exact k_iret hx hb hr hlocks hK hN hH hw dX12_paneOf_58
      · replace hw := hw.2 hc7
        by_cases hc10 : a2 = 1
        · replace hw := hw.1 hc10
          refine lv_tableIn (tgt := 59) hx hb dX12_paneOf_20 (by rw [hc10]; first | done | decide) (by rw [hc10]; first | done | decide) (by rw [hc10]; first | done | rfl) (by decide) ?_
          refine lv_aload_n hx hb dX12_paneOf_59 rfl (lv_at hl 0 rfl) ?_
          refine lv_iload_n hx hb dX12_paneOf_60 rfl (lv_at hl 1 rfl) ?_
          refine lv_iconst (v := 1) hx hb dX12_paneOf_61 (by decide +kernel) ?_
          refine k_afti (va_runV (As := [.int a1, .int (1 : Int32)]) (rest := []) ⟨hx, hb, hml, hown, hts⟩ (c_X12_its l D kA ly n hn A a1 (1 : Int32) S4 _) (cwV 2 hts gX12_paneOf_X12_its rfl rfl rfl (by decide +kernel) ⟨(Nat.le_of_ble_eq_true rfl), (Nat.le_of_ble_eq_true rfl)⟩) ⟨k_blind, (k_recv hK hH (hn _ (by decide)) Er_0 rfl), k_pre hK hN hH hw⟩ rfl rfl hl.1 rfl (lv_room (Nat.le_of_ble_eq_true rfl)) dX12_paneOf_62 ⟨Nat.le_refl _, Nat.le_refl _⟩) hH (fun r12 S11 H locs hw hH => ?_)
          exact k_iret hx hb hr hlocks hK hN hH hw dX12_paneOf_65
        · replace hw := hw.2 hc10
          by_cases hc13 : a2 = 2
          · replace hw := hw.1 hc13
            refine lv_tableIn (tgt := 66) hx hb dX12_paneOf_20 (by rw [hc13]; first | done | decide) (by rw [hc13]; first | done | decide) (by rw [hc13]; first | done | rfl) (by decide) ?_
            refine lv_aload_n hx hb dX12_paneOf_66 rfl (lv_at hl 0 rfl) ?_
            refine lv_iload_n hx hb dX12_paneOf_67 rfl (lv_at hl 1 rfl) ?_
            refine lv_iconst (v := 2) hx hb dX12_paneOf_68 (by decide +kernel) ?_
            refine k_afti (va_runV (As := [.int a1, .int (2 : Int32)]) (rest := []) ⟨hx, hb, hml, hown, hts⟩ (c_X12_its l D kA ly n hn A a1 (2 : Int32) S4 _) (cwV 2 hts gX12_paneOf_X12_its rfl rfl rfl (by decide +kernel) ⟨(Nat.le_of_ble_eq_true rfl), (Nat.le_of_ble_eq_true rfl)⟩) ⟨k_blind, (k_recv hK hH (hn _ (by decide)) Er_0 rfl), k_pre hK hN hH hw⟩ rfl rfl hl.1 rfl (lv_room (Nat.le_of_ble_eq_true rfl)) dX12_paneOf_69 ⟨Nat.le_refl _, Nat.le_refl _⟩) hH (fun r15 S14 H locs hw hH => ?_)
            refine k_afti (va_runS (As := [.int r15]) (rest := []) ⟨hx, hb, hml, hown, hts⟩ (c_X12_hung l D kA ly n hn A r15 S14 _) (va_cwS 1 hts gX12_paneOf_X12_hung rfl rfl rfl (by decide +kernel) ⟨(Nat.le_of_ble_eq_true rfl), (Nat.le_of_ble_eq_true rfl)⟩) ⟨k_blind, k_pre hK hN hH hw⟩ rfl rfl hl.1 rfl (lv_room (Nat.le_of_ble_eq_true rfl)) dX12_paneOf_72 ⟨Nat.le_refl _, Nat.le_refl _⟩) hH (fun r17 S16 H locs hw hH => ?_)
            exact k_iret hx hb hr hlocks hK hN hH hw dX12_paneOf_75
          · replace hw := hw.2 hc13
            by_cases hc18 : a2 = 3
            · replace hw := hw.1 hc18
              refine lv_tableIn (tgt := 76) hx hb dX12_paneOf_20 (by rw [hc18]; first | done | decide) (by rw [hc18]; first | done | decide) (by rw [hc18]; first | done | rfl) (by decide) ?_
              refine lv_aload_n hx hb dX12_paneOf_76 rfl (lv_at hl 0 rfl) ?_
              refine lv_iload_n hx hb dX12_paneOf_77 rfl (lv_at hl 1 rfl) ?_
              refine k_afti (va_runV (As := [.int a1]) (rest := []) ⟨hx, hb, hml, hown, hts⟩ (c_X12_shown l D kA ly n hn A a1 S4 _) (cwV 1 hts gX12_paneOf_X12_shown rfl rfl rfl (by decide +kernel) ⟨(Nat.le_of_ble_eq_true rfl), (Nat.le_of_ble_eq_true rfl)⟩) ⟨k_blind, (k_recv hK hH (hn _ (by decide)) Er_0 rfl), k_pre hK hN hH hw⟩ rfl rfl hl.1 rfl (lv_room (Nat.le_of_ble_eq_true rfl)) dX12_paneOf_78 ⟨Nat.le_refl _, Nat.le_refl _⟩) hH (fun r20 S19 H locs hw hH => ?_)
              exact k_iret hx hb hr hlocks hK hN hH hw dX12_paneOf_81
            · replace hw := hw.2 hc18
              refine lv_tableOut (tgt := 82) hx hb dX12_paneOf_20 (tb_out4_0 hc7 hc10 hc13 hc18) (by decide) ?_
              refine lv_aload_n hx hb dX12_paneOf_82 rfl (lv_at hl 0 rfl) ?_
              refine gf_r_2 hx hb hts hiX12 hown hK hn hH lk0 dX12_paneOf_83 ?_
              refine lv_iconst (v := 0) hx hb dX12_paneOf_86 (by decide +kernel) ?_
              obtain ⟨hi_21, hw⟩ := hw
              refine k_ild hx hb hK hH (hn _ (by decide)) Er_3 hi_21 dX12_paneOf_87 ?_
              refine lv_bipush (v := 50) hx hb dX12_paneOf_88 (by decide +kernel) ?_
              refine lv_icmp_ge (tgt := 115) hx hb dX12_paneOf_90 (by decide) (fun hc22 => ?_) (fun hc22 => ?_)
              · replace hw := hw.1 hc22
                refine lv_iconst (v := 0) hx hb dX12_paneOf_115 (by decide +kernel) ?_
                exact k_iret hx hb hr hlocks hK hN hH hw dX12_paneOf_116
              · replace hw := hw.2 hc22
                refine lv_aload_n hx hb dX12_paneOf_93 rfl (lv_at hl 0 rfl) ?_
                refine lv_iload_n hx hb dX12_paneOf_94 rfl (lv_at hl 1 rfl) ?_
                refine lv_iconst (v := 0) hx hb dX12_paneOf_95 (by decide +kernel) ?_
                refine k_afti (va_runV (As := [.int a1, .int (0 : Int32)]) (rest := []) ⟨hx, hb, hml, hown, hts⟩ (c_X12_its l D kA ly n hn A a1 (0 : Int32) S4 _) (cwV 2 hts gX12_paneOf_X12_its rfl rfl rfl (by decide +kernel) ⟨(Nat.le_of_ble_eq_true rfl), (Nat.le_of_ble_eq_true rfl)⟩) ⟨k_blind, (k_recv hK hH (hn _ (by decide)) Er_0 rfl), k_pre hK hN hH hw⟩ rfl rfl hl.1 rfl (lv_room (Nat.le_of_ble_eq_true rfl)) dX12_paneOf_96 ⟨Nat.le_refl _, Nat.le_refl _⟩) hH (fun r24 S23 H locs hw hH => ?_)
                refine lv_aload_n hx hb dX12_paneOf_99 rfl (lv_at hl 0 rfl) ?_
                refine gf_r_2 hx hb hts hiX12 hown hK hn hH lk0 dX12_paneOf_100 ?_
                refine lv_iconst (v := 0) hx hb dX12_paneOf_103 (by decide +kernel) ?_
                obtain ⟨hi_25, hw⟩ := hw
                refine k_ild hx hb hK hH (hn _ (by decide)) Er_3 hi_25 dX12_paneOf_104 ?_
                refine k_afti (va_runS (As := [.int r24, .int (gA S23 3 (0 : Int32).toNatClampNeg)]) (rest := []) ⟨hx, hb, hml, hown, hts⟩ (c_X12_movesBy l D kA ly n hn A r24 (gA S23 3 (0 : Int32).toNatClampNeg) S23 _) (va_cwS 2 hts gX12_paneOf_X12_movesBy rfl rfl rfl (by decide +kernel) ⟨(Nat.le_of_ble_eq_true rfl), (Nat.le_of_ble_eq_true rfl)⟩) ⟨k_blind, k_pre hK hN hH hw⟩ rfl rfl hl.1 rfl (lv_room (Nat.le_of_ble_eq_true rfl)) dX12_paneOf_105 ⟨Nat.le_refl _, Nat.le_refl _⟩) hH (fun r27 S26 H locs hw hH => ?_)
                refine lv_if_eq (tgt := 115) hx hb dX12_paneOf_108 (by decide) (fun hc28 => ?_) (fun hc28 => ?_)
                · replace hw := hw.1 hc28
                  refine lv_iconst (v := 0) hx hb dX12_paneOf_115 (by decide +kernel) ?_
                  exact k_iret hx hb hr hlocks hK hN hH hw dX12_paneOf_116
                · replace hw := hw.2 hc28
                  refine lv_iconst (v := 1) hx hb dX12_paneOf_111 (by decide +kernel) ?_
                  refine lv_goto (tgt := 116) hx hb dX12_paneOf_112 (by decide) ?_
                  exact k_iret hx hb hr hlocks hK hN hH hw dX12_paneOf_116
    · replace hw := hw.1 hc6
      refine lv_iconst (v := -1) hx hb dX12_paneOf_17 (by decide +kernel) ?_
      exact k_iret hx hb hr hlocks hK hN hH hw dX12_paneOf_18
def wp_X12_glimpse (a1 : Int32) (a2 : Int32) (S : St) (Q : Int32 → St → Prop) : Prop := wp_X12_isPane a1 S (fun r2 S1 => ((r2 = 0 → Q (-1 : Int32) S1) ∧ (¬ r2 = 0 → wp_X12_its a1 (1 : Int32) S1 (fun r5 S4 => wp_X12_in a2 (0 : Int32) (r5 - (1 : Int32)) S4 (fun r7 S6 => ((r7 = 0 → Q (-3 : Int32) S6) ∧ (¬ r7 = 0 → wp_X12_its a1 ((3 : Int32) + a2) S6 (fun r10 S9 => Q r10 S9))))))))
set_option maxHeartbeats 4000000 in
set_option maxRecDepth 100000 in
theorem c_X12_glimpse (l : Launch) (D : va_G) (kA : Nat → ClassId) (ly : Nat → Nat) (n : List Nat) (hn : ∀ c, c < 20 → c ∈ n) (A : Nat → Prop) (a1 : Int32) (a2 : Int32) : Ci l yX12_glimpse wsX12_glimpse 2 43 (Gp D (Er kA ly) ly n A kA) A [.ref (ly 0), .int a1, .int a2] (wp_X12_glimpse a1 a2) := by
  intro S Q
  refine Met.ofW (cc := cX12_glimpse) (maxL := 3) (ret := (some .int)) (by decide) rfl ?_
  intro p e s m args below meth c s₁ B hml hv
  obtain ⟨rfl, ⟨hP, hD, hK, hN⟩, hw⟩ := hv
  have hx := B.exec
  have hb := B.bytes
  have hr := B.returns
  have hts := atoms_spec (ws := wsX12_glimpse) B.pre
  have hown : s.vm.findClass RX12 = some m.cls := findClass_of_methodNamed B.named
  have hlocks := B.notSynchronized
  have hH : Hp D (Er kA ly) ly n A s.heap S s.heap [] := ⟨hP, hD, va_S.rf⟩
  have hl := lv_entry ([.ref (ly 0), .int a1, .int a2]) (n := 3) (Nat.le_of_ble_eq_true rfl)
  rw [lg_entry_eq]
  generalize (lg_sl ([.ref (ly 0), .int a1, .int a2]) ++ List.replicate (3 - (lg_sl ([.ref (ly 0), .int a1, .int a2])).length) Slot.unset).toArray = ls at hl ⊢
  have hl : lv_has ls 3 [(0, .ref (ly 0)), (1, .int a1), (2, .int a2)] := hl
  rw [wp_X12_glimpse] at hw
  refine lv_aload_n hx hb dX12_glimpse_0 rfl (lv_at hl 0 rfl) ?_
  refine lv_iload_n hx hb dX12_glimpse_1 rfl (lv_at hl 1 rfl) ?_
  refine k_afti (va_runV (As := [.int a1]) (rest := []) ⟨hx, hb, hml, hown, hts⟩ (c_X12_isPane l D kA ly n hn A a1 S _) (cwV 1 hts gX12_glimpse_X12_isPane rfl rfl rfl (by decide +kernel) ⟨(Nat.le_of_ble_eq_true rfl), (Nat.le_of_ble_eq_true rfl)⟩) ⟨k_blind, (k_recv hK hH (hn _ (by decide)) Er_0 rfl), k_pre hK hN hH hw⟩ rfl rfl hl.1 rfl (lv_room (Nat.le_of_ble_eq_true rfl)) dX12_glimpse_2 ⟨Nat.le_refl _, Nat.le_refl _⟩) hH (fun r2 S1 H locs hw hH => ?_)
  refine lv_if_ne (tgt := 10) hx hb dX12_glimpse_5 (by decide) (fun hc3 => ?_) (fun hc3 => ?_)
  · replace hw := hw.2 hc3
    refine lv_iload_n hx hb dX12_glimpse_10 rfl (lv_at hl 2 rfl) ?_
    refine lv_iconst (v := 0) hx hb dX12_glimpse_11 (by decide +kernel) ?_
    refine lv_aload_n hx hb dX12_glimpse_12 rfl (lv_at hl 0 rfl) ?_
    refine lv_iload_n hx hb dX12_glimpse_13 rfl (lv_at hl 1 rfl) ?_
    refine lv_iconst (v := 1) hx hb dX12_glimpse_14 (by decide +kernel) ?_
    refine k_afti (va_runV (As := [.int a1, .int (1 : Int32)]) (rest := [.int (0 : Int32), .int a2]) ⟨hx, hb, hml, hown, hts⟩ (c_X12_its l D kA ly n hn A a1 (1 : Int32) S1 _) (cwV 2 hts gX12_glimpse_X12_its rfl rfl rfl (by decide +kernel) ⟨(Nat.le_of_ble_eq_true rfl), (Nat.le_of_ble_eq_true rfl)⟩) ⟨k_blind, (k_recv hK hH (hn _ (by decide)) Er_0 rfl), k_pre hK hN hH hw⟩ rfl rfl hl.1 rfl (lv_room (Nat.le_of_ble_eq_true rfl)) dX12_glimpse_15 ⟨Nat.le_refl _, Nat.le_refl _⟩) hH (fun r5 S4 H locs hw hH => ?_)
    refine lv_iconst (v := 1) hx hb dX12_glimpse_18 (by decide +kernel) ?_
    refine lv_isub hx hb dX12_glimpse_19 ?_
    refine k_afti (va_runS (As := [.int a2, .int (0 : Int32), .int (r5 - (1 : Int32))]) (rest := []) ⟨hx, hb, hml, hown, hts⟩ (c_X12_in l D kA ly n hn A a2 (0 : Int32) (r5 - (1 : Int32)) S4 _) (va_cwS 3 hts gX12_glimpse_X12_in rfl rfl rfl (by decide +kernel) ⟨(Nat.le_of_ble_eq_true rfl), (Nat.le_of_ble_eq_true rfl)⟩) ⟨k_blind, k_pre hK hN hH hw⟩ rfl rfl hl.1 rfl (lv_room (Nat.le_of_ble_eq_true rfl)) dX12_glimpse_20 ⟨Nat.le_refl _, Nat.le_refl _⟩) hH (fun r7 S6 H locs hw hH => ?_)
    refine lv_if_eq (tgt := 37) hx hb dX12_glimpse_23 (by decide) (fun hc8 => ?_) (fun hc8 => ?_)
    · replace hw := hw.1 hc8
      refine lv_bipush (v := -3) hx hb dX12_glimpse_37 (by decide +kernel) ?_
      exact k_iret hx hb hr hlocks hK hN hH hw dX12_glimpse_39
    · replace hw := hw.2 hc8
      refine lv_aload_n hx hb dX12_glimpse_26 rfl (lv_at hl 0 rfl) ?_
      refine lv_iload_n hx hb dX12_glimpse_27 rfl (lv_at hl 1 rfl) ?_
      refine lv_iconst (v := 3) hx hb dX12_glimpse_28 (by decide +kernel) ?_
      refine lv_iload_n hx hb dX12_glimpse_29 rfl (lv_at hl 2 rfl) ?_
      refine lv_iadd hx hb dX12_glimpse_30 ?_
      refine k_afti (va_runV (As := [.int a1, .int ((3 : Int32) + a2)]) (rest := []) ⟨hx, hb, hml, hown, hts⟩ (c_X12_its l D kA ly n hn A a1 ((3 : Int32) + a2) S6 _) (cwV 2 hts gX12_glimpse_X12_its rfl rfl rfl (by decide +kernel) ⟨(Nat.le_of_ble_eq_true rfl), (Nat.le_of_ble_eq_true rfl)⟩) ⟨k_blind, (k_recv hK hH (hn _ (by decide)) Er_0 rfl), k_pre hK hN hH hw⟩ rfl rfl hl.1 rfl (lv_room (Nat.le_of_ble_eq_true rfl)) dX12_glimpse_31 ⟨Nat.le_refl _, Nat.le_refl _⟩) hH (fun r10 S9 H locs hw hH => ?_)
      refine lv_goto (tgt := 39) hx hb dX12_glimpse_34 (by decide) ?_
      exact k_iret hx hb hr hlocks hK hN hH hw dX12_glimpse_39
  · replace hw := hw.1 hc3
    refine lv_iconst (v := -1) hx hb dX12_glimpse_8 (by decide +kernel) ?_
    exact k_iret hx hb hr hlocks hK hN hH hw dX12_glimpse_9
def wp_X12_hang (a1 : Int32) (a2 : Int32) (S : St) (Q : Int32 → St → Prop) : Prop := wp_X12_isPane a1 S (fun r2 S1 => ((r2 = 0 → Q (-1 : Int32) S1) ∧ (¬ r2 = 0 → wp_X12_in a2 (0 : Int32) (4 : Int32) S1 (fun r5 S4 => ((r5 = 0 → Q (-1 : Int32) S4) ∧ (¬ r5 = 0 → wp_X12_its a1 (2 : Int32) S4 (fun r8 S7 => wp_X12_becomes a1 (2 : Int32) a2 S7 (fun S9 => wp_X12_hung r8 S9 (fun r11 S10 => Q r11 S10)))))))))
set_option maxHeartbeats 4000000 in
set_option maxRecDepth 100000 in
theorem c_X12_hang (l : Launch) (D : va_G) (kA : Nat → ClassId) (ly : Nat → Nat) (n : List Nat) (hn : ∀ c, c < 20 → c ∈ n) (A : Nat → Prop) (a1 : Int32) (a2 : Int32) : Ci l yX12_hang wsX12_hang 2 43 (Gp D (Er kA ly) ly n A kA) A [.ref (ly 0), .int a1, .int a2] (wp_X12_hang a1 a2) := by
  intro S Q
  refine Met.ofW (cc := cX12_hang) (maxL := 4) (ret := (some .int)) (by decide) rfl ?_
  intro p e s m args below meth c s₁ B hml hv
  obtain ⟨rfl, ⟨hP, hD, hK, hN⟩, hw⟩ := hv
  have hx := B.exec
  have hb := B.bytes
  have hr := B.returns
  have hts := atoms_spec (ws := wsX12_hang) B.pre
  have hown : s.vm.findClass RX12 = some m.cls := findClass_of_methodNamed B.named
  have hlocks := B.notSynchronized
  have hH : Hp D (Er kA ly) ly n A s.heap S s.heap [] := ⟨hP, hD, va_S.rf⟩
  have hl := lv_entry ([.ref (ly 0), .int a1, .int a2]) (n := 4) (Nat.le_of_ble_eq_true rfl)
  rw [lg_entry_eq]
  generalize (lg_sl ([.ref (ly 0), .int a1, .int a2]) ++ List.replicate (4 - (lg_sl ([.ref (ly 0), .int a1, .int a2])).length) Slot.unset).toArray = ls at hl ⊢
  have hl : lv_has ls 4 [(0, .ref (ly 0)), (1, .int a1), (2, .int a2)] := hl
  rw [wp_X12_hang] at hw
  refine lv_aload_n hx hb dX12_hang_0 rfl (lv_at hl 0 rfl) ?_
  refine lv_iload_n hx hb dX12_hang_1 rfl (lv_at hl 1 rfl) ?_
  refine k_afti (va_runV (As := [.int a1]) (rest := []) ⟨hx, hb, hml, hown, hts⟩ (c_X12_isPane l D kA ly n hn A a1 S _) (cwV 1 hts gX12_hang_X12_isPane rfl rfl rfl (by decide +kernel) ⟨(Nat.le_of_ble_eq_true rfl), (Nat.le_of_ble_eq_true rfl)⟩) ⟨k_blind, (k_recv hK hH (hn _ (by decide)) Er_0 rfl), k_pre hK hN hH hw⟩ rfl rfl hl.1 rfl (lv_room (Nat.le_of_ble_eq_true rfl)) dX12_hang_2 ⟨Nat.le_refl _, Nat.le_refl _⟩) hH (fun r2 S1 H locs hw hH => ?_)
  refine lv_if_eq (tgt := 17) hx hb dX12_hang_5 (by decide) (fun hc3 => ?_) (fun hc3 => ?_)
  · replace hw := hw.1 hc3
    refine lv_iconst (v := -1) hx hb dX12_hang_17 (by decide +kernel) ?_
    exact k_iret hx hb hr hlocks hK hN hH hw dX12_hang_18
  · replace hw := hw.2 hc3
    refine lv_iload_n hx hb dX12_hang_8 rfl (lv_at hl 2 rfl) ?_
    refine lv_iconst (v := 0) hx hb dX12_hang_9 (by decide +kernel) ?_
    refine lv_iconst (v := 4) hx hb dX12_hang_10 (by decide +kernel) ?_
    refine k_afti (va_runS (As := [.int a2, .int (0 : Int32), .int (4 : Int32)]) (rest := []) ⟨hx, hb, hml, hown, hts⟩ (c_X12_in l D kA ly n hn A a2 (0 : Int32) (4 : Int32) S1 _) (va_cwS 3 hts gX12_hang_X12_in rfl rfl rfl (by decide +kernel) ⟨(Nat.le_of_ble_eq_true rfl), (Nat.le_of_ble_eq_true rfl)⟩) ⟨k_blind, k_pre hK hN hH hw⟩ rfl rfl hl.1 rfl (lv_room (Nat.le_of_ble_eq_true rfl)) dX12_hang_11 ⟨Nat.le_refl _, Nat.le_refl _⟩) hH (fun r5 S4 H locs hw hH => ?_)
    refine lv_if_ne (tgt := 19) hx hb dX12_hang_14 (by decide) (fun hc6 => ?_) (fun hc6 => ?_)
    · replace hw := hw.2 hc6
      refine lv_aload_n hx hb dX12_hang_19 rfl (lv_at hl 0 rfl) ?_
      refine lv_iload_n hx hb dX12_hang_20 rfl (lv_at hl 1 rfl) ?_
      refine lv_iconst (v := 2) hx hb dX12_hang_21 (by decide +kernel) ?_
      refine k_afti (va_runV (As := [.int a1, .int (2 : Int32)]) (rest := []) ⟨hx, hb, hml, hown, hts⟩ (c_X12_its l D kA ly n hn A a1 (2 : Int32) S4 _) (cwV 2 hts gX12_hang_X12_its rfl rfl rfl (by decide +kernel) ⟨(Nat.le_of_ble_eq_true rfl), (Nat.le_of_ble_eq_true rfl)⟩) ⟨k_blind, (k_recv hK hH (hn _ (by decide)) Er_0 rfl), k_pre hK hN hH hw⟩ rfl rfl hl.1 rfl (lv_room (Nat.le_of_ble_eq_true rfl)) dX12_hang_22 ⟨Nat.le_refl _, Nat.le_refl _⟩) hH (fun r8 S7 H locs hw hH => ?_)
      refine lv_istore_n (lv' := [(3, .int r8), (0, .ref (ly 0)), (1, .int a1), (2, .int a2)]) hx hb dX12_hang_25 rfl hl (by decide) rfl (fun ls hl => ?_)
      refine lv_aload_n hx hb dX12_hang_26 rfl (lv_at hl 1 rfl) ?_
      refine lv_iload_n hx hb dX12_hang_27 rfl (lv_at hl 2 rfl) ?_
      refine lv_iconst (v := 2) hx hb dX12_hang_28 (by decide +kernel) ?_
      refine lv_iload_n hx hb dX12_hang_29 rfl (lv_at hl 3 rfl) ?_
      refine k_aftv (va_runV (As := [.int a1, .int (2 : Int32), .int a2]) (rest := []) ⟨hx, hb, hml, hown, hts⟩ (c_X12_becomes l D kA ly n hn A a1 (2 : Int32) a2 S7 _) (cwV 3 hts gX12_hang_X12_becomes rfl rfl rfl (by decide +kernel) ⟨(Nat.le_of_ble_eq_true rfl), (Nat.le_of_ble_eq_true rfl)⟩) ⟨k_blind, (k_recv hK hH (hn _ (by decide)) Er_0 rfl), k_pre hK hN hH hw⟩ rfl rfl hl.1 rfl (lv_room (Nat.le_of_ble_eq_true rfl)) dX12_hang_30 ⟨Nat.le_refl _, Nat.le_refl _⟩) hH (fun S9 H locs hw hH => ?_)
      refine lv_iload_n hx hb dX12_hang_33 rfl (lv_at hl 0 rfl) ?_
      refine k_afti (va_runS (As := [.int r8]) (rest := []) ⟨hx, hb, hml, hown, hts⟩ (c_X12_hung l D kA ly n hn A r8 S9 _) (va_cwS 1 hts gX12_hang_X12_hung rfl rfl rfl (by decide +kernel) ⟨(Nat.le_of_ble_eq_true rfl), (Nat.le_of_ble_eq_true rfl)⟩) ⟨k_blind, k_pre hK hN hH hw⟩ rfl rfl hl.1 rfl (lv_room (Nat.le_of_ble_eq_true rfl)) dX12_hang_34 ⟨Nat.le_refl _, Nat.le_refl _⟩) hH (fun r11 S10 H locs hw hH => ?_)
      exact k_iret hx hb hr hlocks hK hN hH hw dX12_hang_37
    · replace hw := hw.1 hc6
      refine lv_iconst (v := -1) hx hb dX12_hang_17 (by decide +kernel) ?_
      exact k_iret hx hb hr hlocks hK hN hH hw dX12_hang_18
def wp_X12_cast (a1 : Int32) (a2 : Int32) (S : St) (Q : Int32 → St → Prop) : Prop := wp_X12_isPane a1 S (fun r2 S1 => ((r2 = 0 → Q (-1 : Int32) S1) ∧ (¬ r2 = 0 → wp_X12_in a2 (0 : Int32) (5 : Int32) S1 (fun r5 S4 => ((r5 = 0 → Q (-1 : Int32) S4) ∧ (¬ r5 = 0 → wp_X12_its a1 (0 : Int32) S4 (fun r8 S7 => wp_X12_becomes a1 (0 : Int32) a2 S7 (fun S9 => Q r8 S9))))))))
set_option maxHeartbeats 4000000 in
set_option maxRecDepth 100000 in
theorem c_X12_cast (l : Launch) (D : va_G) (kA : Nat → ClassId) (ly : Nat → Nat) (n : List Nat) (hn : ∀ c, c < 20 → c ∈ n) (A : Nat → Prop) (a1 : Int32) (a2 : Int32) : Ci l yX12_cast wsX12_cast 2 43 (Gp D (Er kA ly) ly n A kA) A [.ref (ly 0), .int a1, .int a2] (wp_X12_cast a1 a2) := by
  intro S Q
  refine Met.ofW (cc := cX12_cast) (maxL := 4) (ret := (some .int)) (by decide) rfl ?_
  intro p e s m args below meth c s₁ B hml hv
  obtain ⟨rfl, ⟨hP, hD, hK, hN⟩, hw⟩ := hv
  have hx := B.exec
  have hb := B.bytes
  have hr := B.returns
  have hts := atoms_spec (ws := wsX12_cast) B.pre
  have hown : s.vm.findClass RX12 = some m.cls := findClass_of_methodNamed B.named
  have hlocks := B.notSynchronized
  have hH : Hp D (Er kA ly) ly n A s.heap S s.heap [] := ⟨hP, hD, va_S.rf⟩
  have hl := lv_entry ([.ref (ly 0), .int a1, .int a2]) (n := 4) (Nat.le_of_ble_eq_true rfl)
  rw [lg_entry_eq]
  generalize (lg_sl ([.ref (ly 0), .int a1, .int a2]) ++ List.replicate (4 - (lg_sl ([.ref (ly 0), .int a1, .int a2])).length) Slot.unset).toArray = ls at hl ⊢
  have hl : lv_has ls 4 [(0, .ref (ly 0)), (1, .int a1), (2, .int a2)] := hl
  rw [wp_X12_cast] at hw
  refine lv_aload_n hx hb dX12_cast_0 rfl (lv_at hl 0 rfl) ?_
  refine lv_iload_n hx hb dX12_cast_1 rfl (lv_at hl 1 rfl) ?_
  refine k_afti (va_runV (As := [.int a1]) (rest := []) ⟨hx, hb, hml, hown, hts⟩ (c_X12_isPane l D kA ly n hn A a1 S _) (cwV 1 hts gX12_cast_X12_isPane rfl rfl rfl (by decide +kernel) ⟨(Nat.le_of_ble_eq_true rfl), (Nat.le_of_ble_eq_true rfl)⟩) ⟨k_blind, (k_recv hK hH (hn _ (by decide)) Er_0 rfl), k_pre hK hN hH hw⟩ rfl rfl hl.1 rfl (lv_room (Nat.le_of_ble_eq_true rfl)) dX12_cast_2 ⟨Nat.le_refl _, Nat.le_refl _⟩) hH (fun r2 S1 H locs hw hH => ?_)
  refine lv_if_eq (tgt := 17) hx hb dX12_cast_5 (by decide) (fun hc3 => ?_) (fun hc3 => ?_)
  · replace hw := hw.1 hc3
    refine lv_iconst (v := -1) hx hb dX12_cast_17 (by decide +kernel) ?_
    exact k_iret hx hb hr hlocks hK hN hH hw dX12_cast_18
  · replace hw := hw.2 hc3
    refine lv_iload_n hx hb dX12_cast_8 rfl (lv_at hl 2 rfl) ?_
    refine lv_iconst (v := 0) hx hb dX12_cast_9 (by decide +kernel) ?_
    refine lv_iconst (v := 5) hx hb dX12_cast_10 (by decide +kernel) ?_
    refine k_afti (va_runS (As := [.int a2, .int (0 : Int32), .int (5 : Int32)]) (rest := []) ⟨hx, hb, hml, hown, hts⟩ (c_X12_in l D kA ly n hn A a2 (0 : Int32) (5 : Int32) S1 _) (va_cwS 3 hts gX12_cast_X12_in rfl rfl rfl (by decide +kernel) ⟨(Nat.le_of_ble_eq_true rfl), (Nat.le_of_ble_eq_true rfl)⟩) ⟨k_blind, k_pre hK hN hH hw⟩ rfl rfl hl.1 rfl (lv_room (Nat.le_of_ble_eq_true rfl)) dX12_cast_11 ⟨Nat.le_refl _, Nat.le_refl _⟩) hH (fun r5 S4 H locs hw hH => ?_)
    refine lv_if_ne (tgt := 19) hx hb dX12_cast_14 (by decide) (fun hc6 => ?_) (fun hc6 => ?_)
    · replace hw := hw.2 hc6
      refine lv_aload_n hx hb dX12_cast_19 rfl (lv_at hl 0 rfl) ?_
      refine lv_iload_n hx hb dX12_cast_20 rfl (lv_at hl 1 rfl) ?_
      refine lv_iconst (v := 0) hx hb dX12_cast_21 (by decide +kernel) ?_
      refine k_afti (va_runV (As := [.int a1, .int (0 : Int32)]) (rest := []) ⟨hx, hb, hml, hown, hts⟩ (c_X12_its l D kA ly n hn A a1 (0 : Int32) S4 _) (cwV 2 hts gX12_cast_X12_its rfl rfl rfl (by decide +kernel) ⟨(Nat.le_of_ble_eq_true rfl), (Nat.le_of_ble_eq_true rfl)⟩) ⟨k_blind, (k_recv hK hH (hn _ (by decide)) Er_0 rfl), k_pre hK hN hH hw⟩ rfl rfl hl.1 rfl (lv_room (Nat.le_of_ble_eq_true rfl)) dX12_cast_22 ⟨Nat.le_refl _, Nat.le_refl _⟩) hH (fun r8 S7 H locs hw hH => ?_)
      refine lv_istore_n (lv' := [(3, .int r8), (0, .ref (ly 0)), (1, .int a1), (2, .int a2)]) hx hb dX12_cast_25 rfl hl (by decide) rfl (fun ls hl => ?_)
      refine lv_aload_n hx hb dX12_cast_26 rfl (lv_at hl 1 rfl) ?_
      refine lv_iload_n hx hb dX12_cast_27 rfl (lv_at hl 2 rfl) ?_
      refine lv_iconst (v := 0) hx hb dX12_cast_28 (by decide +kernel) ?_
      refine lv_iload_n hx hb dX12_cast_29 rfl (lv_at hl 3 rfl) ?_
      refine k_aftv (va_runV (As := [.int a1, .int (0 : Int32), .int a2]) (rest := []) ⟨hx, hb, hml, hown, hts⟩ (c_X12_becomes l D kA ly n hn A a1 (0 : Int32) a2 S7 _) (cwV 3 hts gX12_cast_X12_becomes rfl rfl rfl (by decide +kernel) ⟨(Nat.le_of_ble_eq_true rfl), (Nat.le_of_ble_eq_true rfl)⟩) ⟨k_blind, (k_recv hK hH (hn _ (by decide)) Er_0 rfl), k_pre hK hN hH hw⟩ rfl rfl hl.1 rfl (lv_room (Nat.le_of_ble_eq_true rfl)) dX12_cast_30 ⟨Nat.le_refl _, Nat.le_refl _⟩) hH (fun S9 H locs hw hH => ?_)
      refine lv_iload_n hx hb dX12_cast_33 rfl (lv_at hl 0 rfl) ?_
      exact k_iret hx hb hr hlocks hK hN hH hw dX12_cast_34
    · replace hw := hw.1 hc6
      refine lv_iconst (v := -1) hx hb dX12_cast_17 (by decide +kernel) ?_
      exact k_iret hx hb hr hlocks hK hN hH hw dX12_cast_18
def wp_X12_today  (S : St) (Q : Int32 → St → Prop) : Prop := (vp_in (0 : Int32) 232 ∧ Q (gA S 3 (0 : Int32).toNatClampNeg) S)
set_option maxHeartbeats 4000000 in
set_option maxRecDepth 100000 in
theorem c_X12_today (l : Launch) (D : va_G) (kA : Nat → ClassId) (ly : Nat → Nat) (n : List Nat) (hn : ∀ c, c < 20 → c ∈ n) (A : Nat → Prop)  : Ci l yX12_today wsX12_today 0 0 (Gp D (Er kA ly) ly n A kA) A [.ref (ly 0)] (wp_X12_today) := by
  intro S Q
  refine Met.ofW (cc := cX12_today) (maxL := 1) (ret := (some .int)) (by decide) rfl ?_
  intro p e s m args below meth c s₁ B hml hv
  obtain ⟨rfl, ⟨hP, hD, hK, hN⟩, hw⟩ := hv
  have hx := B.exec
  have hb := B.bytes
  have hr := B.returns
  have hts := atoms_spec (ws := wsX12_today) B.pre
  have hown : s.vm.findClass RX12 = some m.cls := findClass_of_methodNamed B.named
  have hlocks := B.notSynchronized
  have hH : Hp D (Er kA ly) ly n A s.heap S s.heap [] := ⟨hP, hD, va_S.rf⟩
  have hiX12 : ∀ w ∈ u_ws RX12 TX12 39, w ∈ wsX12_today := by decide +kernel
  have lk0 := hts (.fieldLink RX12 16 "SlowPanesModel" "row" "[I") (by decide +kernel)
  have hl := lv_entry ([.ref (ly 0)]) (n := 1) (Nat.le_of_ble_eq_true rfl)
  rw [lg_entry_eq]
  generalize (lg_sl ([.ref (ly 0)]) ++ List.replicate (1 - (lg_sl ([.ref (ly 0)])).length) Slot.unset).toArray = ls at hl ⊢
  have hl : lv_has ls 1 [(0, .ref (ly 0))] := hl
  rw [wp_X12_today] at hw
  refine lv_aload_n hx hb dX12_today_0 rfl (lv_at hl 0 rfl) ?_
  refine gf_r_2 hx hb hts hiX12 hown hK hn hH lk0 dX12_today_1 ?_
  refine lv_iconst (v := 0) hx hb dX12_today_4 (by decide +kernel) ?_
  obtain ⟨hi_1, hw⟩ := hw
  refine k_ild hx hb hK hH (hn _ (by decide)) Er_3 hi_1 dX12_today_5 ?_
  exact k_iret hx hb hr hlocks hK hN hH hw dX12_today_6
def wl_X12_moves_23 (a1 : Int32) (K_23 : Int32 → St → Prop) : Nat → Int32 → St → Prop
  | 0, _, _ => False
  | fu_23 + 1, v3_23, S_23 => ((v3_23 ≤ 0 → K_23 v3_23 S_23) ∧ (¬ v3_23 ≤ 0 → wp_X12_its a1 (((3 : Int32) + v3_23) - (1 : Int32)) S_23 (fun r11 S10 => wp_X12_becomes a1 ((3 : Int32) + v3_23) r11 S10 (fun S12 => (∀ t13 : Int32, t13 = v3_23 + (-1 : Int32) → wl_X12_moves_23 a1 K_23 fu_23 t13 S12)))))
def wp_X12_moves (a1 : Int32) (a2 : Int32) (S : St) (Q : St → Prop) : Prop := wp_X12_its a1 (0 : Int32) S (fun r2 S1 => wp_X12_movesBy r2 a2 S1 (fun r4 S3 => ((r4 = 0 → Q S3) ∧ (¬ r4 = 0 → wp_X12_its a1 (1 : Int32) S3 (fun r7 S6 => (∀ t8 : Int32, t8 = (r7 - (1 : Int32)) → (∃ m_23 : Nat, wl_X12_moves_23 a1 (fun e3_14 S15 => wp_X12_its a1 (2 : Int32) S15 (fun r17 S16 => ((r17 = (4 : Int32) → wp_X12_becomes a1 (3 : Int32) (-9 : Int32) S16 (fun S20 => Q S20)) ∧ (¬ r17 = (4 : Int32) → wp_X12_becomes a1 (3 : Int32) (((10 : Int32) * a2) + r17) S16 (fun S19 => Q S19))))) m_23 t8 S6)))))))
set_option maxHeartbeats 4000000 in
set_option maxRecDepth 100000 in
theorem c_X12_moves (l : Launch) (D : va_G) (kA : Nat → ClassId) (ly : Nat → Nat) (n : List Nat) (hn : ∀ c, c < 20 → c ∈ n) (A : Nat → Prop) (a1 : Int32) (a2 : Int32) : Cv l yX12_moves wsX12_moves 1 23 (Gp D (Er kA ly) ly n A kA) A [.ref (ly 0), .int a1, .int a2] (wp_X12_moves a1 a2) := by
  intro S Q
  refine Met.ofW (cc := cX12_moves) (maxL := 4) (ret := none) (by decide) rfl ?_
  intro p e s m args below meth c s₁ B hml hv
  obtain ⟨rfl, ⟨hP, hD, hK, hN⟩, hw⟩ := hv
  have hx := B.exec
  have hb := B.bytes
  have hr := B.returns
  have hts := atoms_spec (ws := wsX12_moves) B.pre
  have hown : s.vm.findClass RX12 = some m.cls := findClass_of_methodNamed B.named
  have hlocks := B.notSynchronized
  have hH : Hp D (Er kA ly) ly n A s.heap S s.heap [] := ⟨hP, hD, va_S.rf⟩
  have hl := lv_entry ([.ref (ly 0), .int a1, .int a2]) (n := 4) (Nat.le_of_ble_eq_true rfl)
  rw [lg_entry_eq]
  generalize (lg_sl ([.ref (ly 0), .int a1, .int a2]) ++ List.replicate (4 - (lg_sl ([.ref (ly 0), .int a1, .int a2])).length) Slot.unset).toArray = ls at hl ⊢
  have hl : lv_has ls 4 [(0, .ref (ly 0)), (1, .int a1), (2, .int a2)] := hl
  rw [wp_X12_moves] at hw
  refine lv_aload_n hx hb dX12_moves_0 rfl (lv_at hl 0 rfl) ?_
  refine lv_iload_n hx hb dX12_moves_1 rfl (lv_at hl 1 rfl) ?_
  refine lv_iconst (v := 0) hx hb dX12_moves_2 (by decide +kernel) ?_
  refine k_afti (va_runV (As := [.int a1, .int (0 : Int32)]) (rest := []) ⟨hx, hb, hml, hown, hts⟩ (c_X12_its l D kA ly n hn A a1 (0 : Int32) S _) (cwV 2 hts gX12_moves_X12_its rfl rfl rfl (by decide +kernel) ⟨(Nat.le_of_ble_eq_true rfl), (Nat.le_of_ble_eq_true rfl)⟩) ⟨k_blind, (k_recv hK hH (hn _ (by decide)) Er_0 rfl), k_pre hK hN hH hw⟩ rfl rfl hl.1 rfl (lv_room (Nat.le_of_ble_eq_true rfl)) dX12_moves_3 ⟨Nat.le_refl _, Nat.le_refl _⟩) hH (fun r2 S1 H locs hw hH => ?_)
  refine lv_iload_n hx hb dX12_moves_6 rfl (lv_at hl 2 rfl) ?_
  refine k_afti (va_runS (As := [.int r2, .int a2]) (rest := []) ⟨hx, hb, hml, hown, hts⟩ (c_X12_movesBy l D kA ly n hn A r2 a2 S1 _) (va_cwS 2 hts gX12_moves_X12_movesBy rfl rfl rfl (by decide +kernel) ⟨(Nat.le_of_ble_eq_true rfl), (Nat.le_of_ble_eq_true rfl)⟩) ⟨k_blind, k_pre hK hN hH hw⟩ rfl rfl hl.1 rfl (lv_room (Nat.le_of_ble_eq_true rfl)) dX12_moves_7 ⟨Nat.le_refl _, Nat.le_refl _⟩) hH (fun r4 S3 H locs hw hH => ?_)
  refine lv_if_ne (tgt := 14) hx hb dX12_moves_10 (by decide) (fun hc5 => ?_) (fun hc5 => ?_)
  · replace hw := hw.2 hc5
    refine lv_aload_n hx hb dX12_moves_14 rfl (lv_at hl 0 rfl) ?_
    refine lv_iload_n hx hb dX12_moves_15 rfl (lv_at hl 1 rfl) ?_
    refine lv_iconst (v := 1) hx hb dX12_moves_16 (by decide +kernel) ?_
    refine k_afti (va_runV (As := [.int a1, .int (1 : Int32)]) (rest := []) ⟨hx, hb, hml, hown, hts⟩ (c_X12_its l D kA ly n hn A a1 (1 : Int32) S3 _) (cwV 2 hts gX12_moves_X12_its rfl rfl rfl (by decide +kernel) ⟨(Nat.le_of_ble_eq_true rfl), (Nat.le_of_ble_eq_true rfl)⟩) ⟨k_blind, (k_recv hK hH (hn _ (by decide)) Er_0 rfl), k_pre hK hN hH hw⟩ rfl rfl hl.1 rfl (lv_room (Nat.le_of_ble_eq_true rfl)) dX12_moves_17 ⟨Nat.le_refl _, Nat.le_refl _⟩) hH (fun r7 S6 H locs hw hH => ?_)
    refine lv_iconst (v := 1) hx hb dX12_moves_20 (by decide +kernel) ?_
    refine lv_isub hx hb dX12_moves_21 ?_
    refine lv_topi (fun t8 et8 => ?_)
    replace hw := hw t8 et8
    refine lv_istore_n (lv' := [(3, .int t8), (0, .ref (ly 0)), (1, .int a1), (2, .int a2)]) hx hb dX12_moves_22 rfl hl (by decide) rfl (fun ls hl => ?_)
    have L_23 : ∀ (K_23 : Int32 → St → Prop) (hk_23 : ∀ (v3_23 : Int32) (S_23 : St) (H : Heap) (locs : List Loc) (ls : Array Slot), K_23 v3_23 S_23 → Hp D (Er kA ly) ly n A s.heap S_23 H locs → lv_has ls 4 [(0, .ref (ly 0)), (1, .int a1), (2, .int a2), (3, .int v3_23)] → W p l e (headSpec wsX12_moves { frames := 1, cells := 0, slots := 0, locals := 23 }).room s m [.ref (ly 0), .int a1, .int a2].toArray below meth c H locs 0 0 (MQ below (va_Qv Q (Gp D (Er kA ly) ly n A kA) A) [.ref (ly 0), .int a1, .int a2].toArray s 0 0 A) (F0 m 51 ls [])) (fu_23 : Nat) (v3_23 : Int32) (S_23 : St) (H : Heap) (locs : List Loc) (ls : Array Slot), wl_X12_moves_23 a1 K_23 fu_23 v3_23 S_23 → Hp D (Er kA ly) ly n A s.heap S_23 H locs → lv_has ls 4 [(0, .ref (ly 0)), (1, .int a1), (2, .int a2), (3, .int v3_23)] → W p l e (headSpec wsX12_moves { frames := 1, cells := 0, slots := 0, locals := 23 }).room s m [.ref (ly 0), .int a1, .int a2].toArray below meth c H locs 0 0 (MQ below (va_Qv Q (Gp D (Er kA ly) ly n A kA) A) [.ref (ly 0), .int a1, .int a2].toArray s 0 0 A) (F0 m 23 ls []) := by
      intro K_23 hk_23 fu_23
      induction fu_23 with
      | zero => intro v3_23 S_23 H locs ls hw hH hl; rw [wl_X12_moves_23] at hw; exact hw.elim
      | succ fu_23 ih_23 =>
        intro v3_23 S_23 H locs ls hw hH hl
        rw [wl_X12_moves_23] at hw
        refine lv_iload_n hx hb dX12_moves_23 rfl (lv_at hl 3 rfl) ?_
        refine lv_if_le (tgt := 51) hx hb dX12_moves_24 (by decide) (fun hc9 => ?_) (fun hc9 => ?_)
        · replace hw := hw.1 hc9
          exact hk_23 v3_23 S_23 _ _ ls hw hH (lv_sub hl [0, 1, 2, 3] rfl)
        · replace hw := hw.2 hc9
          refine lv_aload_n hx hb dX12_moves_27 rfl (lv_at hl 0 rfl) ?_
          refine lv_iload_n hx hb dX12_moves_28 rfl (lv_at hl 1 rfl) ?_
          refine lv_iconst (v := 3) hx hb dX12_moves_29 (by decide +kernel) ?_
          refine lv_iload_n hx hb dX12_moves_30 rfl (lv_at hl 3 rfl) ?_
          refine lv_iadd hx hb dX12_moves_31 ?_
          refine lv_aload_n hx hb dX12_moves_32 rfl (lv_at hl 0 rfl) ?_
          refine lv_iload_n hx hb dX12_moves_33 rfl (lv_at hl 1 rfl) ?_
          refine lv_iconst (v := 3) hx hb dX12_moves_34 (by decide +kernel) ?_
          refine lv_iload_n hx hb dX12_moves_35 rfl (lv_at hl 3 rfl) ?_
          refine lv_iadd hx hb dX12_moves_36 ?_
          refine lv_iconst (v := 1) hx hb dX12_moves_37 (by decide +kernel) ?_
          refine lv_isub hx hb dX12_moves_38 ?_
          refine k_afti (va_runV (As := [.int a1, .int (((3 : Int32) + v3_23) - (1 : Int32))]) (rest := [.int ((3 : Int32) + v3_23), .int a1, .ref (ly 0)]) ⟨hx, hb, hml, hown, hts⟩ (c_X12_its l D kA ly n hn A a1 (((3 : Int32) + v3_23) - (1 : Int32)) S_23 _) (cwV 2 hts gX12_moves_X12_its rfl rfl rfl (by decide +kernel) ⟨(Nat.le_of_ble_eq_true rfl), (Nat.le_of_ble_eq_true rfl)⟩) ⟨k_blind, (k_recv hK hH (hn _ (by decide)) Er_0 rfl), k_pre hK hN hH hw⟩ rfl rfl hl.1 rfl (lv_room (Nat.le_of_ble_eq_true rfl)) dX12_moves_39 ⟨Nat.le_refl _, Nat.le_refl _⟩) hH (fun r11 S10 H locs hw hH => ?_)
          refine k_aftv (va_runV (As := [.int a1, .int ((3 : Int32) + v3_23), .int r11]) (rest := []) ⟨hx, hb, hml, hown, hts⟩ (c_X12_becomes l D kA ly n hn A a1 ((3 : Int32) + v3_23) r11 S10 _) (cwV 3 hts gX12_moves_X12_becomes rfl rfl rfl (by decide +kernel) ⟨(Nat.le_of_ble_eq_true rfl), (Nat.le_of_ble_eq_true rfl)⟩) ⟨k_blind, (k_recv hK hH (hn _ (by decide)) Er_0 rfl), k_pre hK hN hH hw⟩ rfl rfl hl.1 rfl (lv_room (Nat.le_of_ble_eq_true rfl)) dX12_moves_42 ⟨Nat.le_refl _, Nat.le_refl _⟩) hH (fun S12 H locs hw hH => ?_)
          obtain ⟨t13, et13⟩ : ∃ y : Int32, y = v3_23 + (-1 : Int32) := ⟨_, rfl⟩
          replace hw := hw t13 et13
          refine lv_iinc (v := t13) (lv' := [(3, .int t13), (0, .ref (ly 0)), (1, .int a1), (2, .int a2)]) hx hb dX12_moves_45 hl (k := 3) rfl (by rw [et13]; rfl) (by decide) rfl (fun ls hl => ?_)
          refine lv_goto (tgt := 23) hx hb dX12_moves_48 (by decide) ?_
          exact ih_23 t13 S12 _ _ ls hw hH (lv_sub hl [1, 2, 3, 0] rfl)
    obtain ⟨m_23, hw⟩ := hw
    refine L_23 _ (fun e3_14 S15 H locs ls hw hH hl => ?_) m_23 t8 S6 _ _ ls hw hH (lv_sub hl [1, 2, 3, 0] rfl)
    refine lv_aload_n hx hb dX12_moves_51 rfl (lv_at hl 0 rfl) ?_
    refine lv_iload_n hx hb dX12_moves_52 rfl (lv_at hl 1 rfl) ?_
    refine lv_iconst (v := 2) hx hb dX12_moves_53 (by decide +kernel) ?_
    refine k_afti (va_runV (As := [.int a1, .int (2 : Int32)]) (rest := []) ⟨hx, hb, hml, hown, hts⟩ (c_X12_its l D kA ly n hn A a1 (2 : Int32) S15 _) (cwV 2 hts gX12_moves_X12_its rfl rfl rfl (by decide +kernel) ⟨(Nat.le_of_ble_eq_true rfl), (Nat.le_of_ble_eq_true rfl)⟩) ⟨k_blind, (k_recv hK hH (hn _ (by decide)) Er_0 rfl), k_pre hK hN hH hw⟩ rfl rfl hl.1 rfl (lv_room (Nat.le_of_ble_eq_true rfl)) dX12_moves_54 ⟨Nat.le_refl _, Nat.le_refl _⟩) hH (fun r17 S16 H locs hw hH => ?_)
    refine lv_istore_n (lv' := [(3, .int r17), (0, .ref (ly 0)), (1, .int a1), (2, .int a2)]) hx hb dX12_moves_57 rfl hl (by decide) rfl (fun ls hl => ?_)
    refine lv_aload_n hx hb dX12_moves_58 rfl (lv_at hl 1 rfl) ?_
    refine lv_iload_n hx hb dX12_moves_59 rfl (lv_at hl 2 rfl) ?_
    refine lv_iconst (v := 3) hx hb dX12_moves_60 (by decide +kernel) ?_
    refine lv_iload_n hx hb dX12_moves_61 rfl (lv_at hl 0 rfl) ?_
    refine lv_iconst (v := 4) hx hb dX12_moves_62 (by decide +kernel) ?_
    refine lv_icmp_ne (tgt := 71) hx hb dX12_moves_63 (by decide) (fun hc18 => ?_) (fun hc18 => ?_)
    · replace hw := hw.2 hc18
      refine lv_bipush (v := 10) hx hb dX12_moves_71 (by decide +kernel) ?_
      refine lv_iload_n hx hb dX12_moves_73 rfl (lv_at hl 3 rfl) ?_
      refine lv_imul hx hb dX12_moves_74 ?_
      refine lv_iload_n hx hb dX12_moves_75 rfl (lv_at hl 0 rfl) ?_
      refine lv_iadd hx hb dX12_moves_76 ?_
      refine k_aftv (va_runV (As := [.int a1, .int (3 : Int32), .int (((10 : Int32) * a2) + r17)]) (rest := []) ⟨hx, hb, hml, hown, hts⟩ (c_X12_becomes l D kA ly n hn A a1 (3 : Int32) (((10 : Int32) * a2) + r17) S16 _) (cwV 3 hts gX12_moves_X12_becomes rfl rfl rfl (by decide +kernel) ⟨(Nat.le_of_ble_eq_true rfl), (Nat.le_of_ble_eq_true rfl)⟩) ⟨k_blind, (k_recv hK hH (hn _ (by decide)) Er_0 rfl), k_pre hK hN hH hw⟩ rfl rfl hl.1 rfl (lv_room (Nat.le_of_ble_eq_true rfl)) dX12_moves_77 ⟨Nat.le_refl _, Nat.le_refl _⟩) hH (fun S19 H locs hw hH => ?_)
      exact k_vret hx hb hr hlocks hK hN hH hw dX12_moves_80
    · replace hw := hw.1 hc18
      refine lv_bipush (v := -9) hx hb dX12_moves_66 (by decide +kernel) ?_
      refine lv_goto (tgt := 77) hx hb dX12_moves_68 (by decide) ?_
      refine k_aftv (va_runV (As := [.int a1, .int (3 : Int32), .int (-9 : Int32)]) (rest := []) ⟨hx, hb, hml, hown, hts⟩ (c_X12_becomes l D kA ly n hn A a1 (3 : Int32) (-9 : Int32) S16 _) (cwV 3 hts gX12_moves_X12_becomes rfl rfl rfl (by decide +kernel) ⟨(Nat.le_of_ble_eq_true rfl), (Nat.le_of_ble_eq_true rfl)⟩) ⟨k_blind, (k_recv hK hH (hn _ (by decide)) Er_0 rfl), k_pre hK hN hH hw⟩ rfl rfl hl.1 rfl (lv_room (Nat.le_of_ble_eq_true rfl)) dX12_moves_77 ⟨Nat.le_refl _, Nat.le_refl _⟩) hH (fun S20 H locs hw hH => ?_)
      exact k_vret hx hb hr hlocks hK hN hH hw dX12_moves_80
  · replace hw := hw.1 hc5
    exact k_vret hx hb hr hlocks hK hN hH hw dX12_moves_13
def wl_X12_dayGoes_14 (t2 : Int32) (K_14 : Int32 → St → Prop) : Nat → Int32 → St → Prop
  | 0, _, _ => False
  | fu_14 + 1, v2_14, S_14 => (vp_in ((gI S_14 0 3) + (1 : Int32)) 232 ∧ (((gA S_14 3 ((gI S_14 0 3) + (1 : Int32)).toNatClampNeg) ≤ v2_14 → K_14 v2_14 S_14) ∧ (¬ (gA S_14 3 ((gI S_14 0 3) + (1 : Int32)).toNatClampNeg) ≤ v2_14 → wp_X12_moves v2_14 t2 S_14 (fun S5 => (∀ t6 : Int32, t6 = v2_14 + 1 → wl_X12_dayGoes_14 t2 K_14 fu_14 t6 S5)))))
def wp_X12_dayGoes  (S : St) (Q : St → Prop) : Prop := (vp_in ((gI S 0 3) + (0 : Int32)) 232 ∧ (∀ t2 : Int32, t2 = (gA S 3 ((gI S 0 3) + (0 : Int32)).toNatClampNeg) → (∃ m_14 : Nat, wl_X12_dayGoes_14 t2 (fun e2_7 S8 => (vp_in ((gI S8 0 3) + (0 : Int32)) 232 ∧ (vp_in ((gI S8 0 3) + (0 : Int32)) 232 ∧ ∀ S11 : St, S11 = sA S8 3 ((gI S8 0 3) + (0 : Int32)).toNatClampNeg ((gA S8 3 ((gI S8 0 3) + (0 : Int32)).toNatClampNeg) + (1 : Int32)) → Q S11))) m_14 (0 : Int32) S)))
set_option maxHeartbeats 4000000 in
set_option maxRecDepth 100000 in
theorem c_X12_dayGoes (l : Launch) (D : va_G) (kA : Nat → ClassId) (ly : Nat → Nat) (n : List Nat) (hn : ∀ c, c < 20 → c ∈ n) (A : Nat → Prop)  : Cv l yX12_dayGoes wsX12_dayGoes 2 46 (Gp D (Er kA ly) ly n A kA) A [.ref (ly 0)] (wp_X12_dayGoes) := by
  intro S Q
  refine Met.ofW (cc := cX12_dayGoes) (maxL := 3) (ret := none) (by decide) rfl ?_
  intro p e s m args below meth c s₁ B hml hv
  obtain ⟨rfl, ⟨hP, hD, hK, hN⟩, hw⟩ := hv
  have hx := B.exec
  have hb := B.bytes
  have hr := B.returns
  have hts := atoms_spec (ws := wsX12_dayGoes) B.pre
  have hown : s.vm.findClass RX12 = some m.cls := findClass_of_methodNamed B.named
  have hlocks := B.notSynchronized
  have hH : Hp D (Er kA ly) ly n A s.heap S s.heap [] := ⟨hP, hD, va_S.rf⟩
  have hiX12 : ∀ w ∈ u_ws RX12 TX12 39, w ∈ wsX12_dayGoes := by decide +kernel
  have lk0 := hts (.fieldLink RX12 16 "SlowPanesModel" "row" "[I") (by decide +kernel)
  have lk1 := hts (.fieldLink RX12 76 "SlowPanesModel" "at" "I") (by decide +kernel)
  have hl := lv_entry ([.ref (ly 0)]) (n := 3) (Nat.le_of_ble_eq_true rfl)
  rw [lg_entry_eq]
  generalize (lg_sl ([.ref (ly 0)]) ++ List.replicate (3 - (lg_sl ([.ref (ly 0)])).length) Slot.unset).toArray = ls at hl ⊢
  have hl : lv_has ls 3 [(0, .ref (ly 0))] := hl
  rw [wp_X12_dayGoes] at hw
  refine lv_aload_n hx hb dX12_dayGoes_0 rfl (lv_at hl 0 rfl) ?_
  refine gf_r_2 hx hb hts hiX12 hown hK hn hH lk0 dX12_dayGoes_1 ?_
  refine lv_aload_n hx hb dX12_dayGoes_4 rfl (lv_at hl 0 rfl) ?_
  refine gf_r_3 hx hb hts hiX12 hown hK hn hH lk1 dX12_dayGoes_5 ?_
  refine lv_iconst (v := 0) hx hb dX12_dayGoes_8 (by decide +kernel) ?_
  refine lv_iadd hx hb dX12_dayGoes_9 ?_
  obtain ⟨hi_1, hw⟩ := hw
  refine k_ild hx hb hK hH (hn _ (by decide)) Er_3 hi_1 dX12_dayGoes_10 ?_
  refine lv_topi (fun t2 et2 => ?_)
  replace hw := hw t2 et2
  refine lv_istore_n (lv' := [(1, .int t2), (0, .ref (ly 0))]) hx hb dX12_dayGoes_11 rfl hl (by decide) rfl (fun ls hl => ?_)
  refine lv_iconst (v := 0) hx hb dX12_dayGoes_12 (by decide +kernel) ?_
  refine lv_istore_n (lv' := [(2, .int (0 : Int32)), (1, .int t2), (0, .ref (ly 0))]) hx hb dX12_dayGoes_13 rfl hl (by decide) rfl (fun ls hl => ?_)
  have L_14 : ∀ (K_14 : Int32 → St → Prop) (hk_14 : ∀ (v2_14 : Int32) (S_14 : St) (H : Heap) (locs : List Loc) (ls : Array Slot), K_14 v2_14 S_14 → Hp D (Er kA ly) ly n A s.heap S_14 H locs → lv_has ls 3 [(0, .ref (ly 0)), (1, .int t2), (2, .int v2_14)] → W p l e (headSpec wsX12_dayGoes { frames := 2, cells := 0, slots := 0, locals := 46 }).room s m [.ref (ly 0)].toArray below meth c H locs 0 0 (MQ below (va_Qv Q (Gp D (Er kA ly) ly n A kA) A) [.ref (ly 0)].toArray s 0 0 A) (F0 m 41 ls [])) (fu_14 : Nat) (v2_14 : Int32) (S_14 : St) (H : Heap) (locs : List Loc) (ls : Array Slot), wl_X12_dayGoes_14 t2 K_14 fu_14 v2_14 S_14 → Hp D (Er kA ly) ly n A s.heap S_14 H locs → lv_has ls 3 [(0, .ref (ly 0)), (1, .int t2), (2, .int v2_14)] → W p l e (headSpec wsX12_dayGoes { frames := 2, cells := 0, slots := 0, locals := 46 }).room s m [.ref (ly 0)].toArray below meth c H locs 0 0 (MQ below (va_Qv Q (Gp D (Er kA ly) ly n A kA) A) [.ref (ly 0)].toArray s 0 0 A) (F0 m 14 ls []) := by
    intro K_14 hk_14 fu_14
    induction fu_14 with
    | zero => intro v2_14 S_14 H locs ls hw hH hl; rw [wl_X12_dayGoes_14] at hw; exact hw.elim
    | succ fu_14 ih_14 =>
      intro v2_14 S_14 H locs ls hw hH hl
      rw [wl_X12_dayGoes_14] at hw
      refine lv_iload_n hx hb dX12_dayGoes_14 rfl (lv_at hl 2 rfl) ?_
      refine lv_aload_n hx hb dX12_dayGoes_15 rfl (lv_at hl 0 rfl) ?_
      refine gf_r_2 hx hb hts hiX12 hown hK hn hH lk0 dX12_dayGoes_16 ?_
      refine lv_aload_n hx hb dX12_dayGoes_19 rfl (lv_at hl 0 rfl) ?_
      refine gf_r_3 hx hb hts hiX12 hown hK hn hH lk1 dX12_dayGoes_20 ?_
      refine lv_iconst (v := 1) hx hb dX12_dayGoes_23 (by decide +kernel) ?_
      refine lv_iadd hx hb dX12_dayGoes_24 ?_
      obtain ⟨hi_3, hw⟩ := hw
      refine k_ild hx hb hK hH (hn _ (by decide)) Er_3 hi_3 dX12_dayGoes_25 ?_
      refine lv_icmp_ge (tgt := 41) hx hb dX12_dayGoes_26 (by decide) (fun hc4 => ?_) (fun hc4 => ?_)
      · replace hw := hw.1 hc4
        exact hk_14 v2_14 S_14 _ _ ls hw hH (lv_sub hl [0, 1, 2] rfl)
      · replace hw := hw.2 hc4
        refine lv_aload_n hx hb dX12_dayGoes_29 rfl (lv_at hl 0 rfl) ?_
        refine lv_iload_n hx hb dX12_dayGoes_30 rfl (lv_at hl 2 rfl) ?_
        refine lv_iload_n hx hb dX12_dayGoes_31 rfl (lv_at hl 1 rfl) ?_
        refine k_aftv (va_runV (As := [.int v2_14, .int t2]) (rest := []) ⟨hx, hb, hml, hown, hts⟩ (c_X12_moves l D kA ly n hn A v2_14 t2 S_14 _) (cwV 2 hts gX12_dayGoes_X12_moves rfl rfl rfl (by decide +kernel) ⟨(Nat.le_of_ble_eq_true rfl), (Nat.le_of_ble_eq_true rfl)⟩) ⟨k_blind, (k_recv hK hH (hn _ (by decide)) Er_0 rfl), k_pre hK hN hH hw⟩ rfl rfl hl.1 rfl (lv_room (Nat.le_of_ble_eq_true rfl)) dX12_dayGoes_32 ⟨Nat.le_refl _, Nat.le_refl _⟩) hH (fun S5 H locs hw hH => ?_)
        obtain ⟨t6, et6⟩ : ∃ y : Int32, y = v2_14 + 1 := ⟨_, rfl⟩
        replace hw := hw t6 et6
        refine lv_iinc (v := t6) (lv' := [(2, .int t6), (0, .ref (ly 0)), (1, .int t2)]) hx hb dX12_dayGoes_35 hl (k := 2) rfl (by rw [et6]; rfl) (by decide) rfl (fun ls hl => ?_)
        refine lv_goto (tgt := 14) hx hb dX12_dayGoes_38 (by decide) ?_
        exact ih_14 t6 S5 _ _ ls hw hH (lv_sub hl [1, 2, 0] rfl)
  obtain ⟨m_14, hw⟩ := hw
  refine L_14 _ (fun e2_7 S8 H locs ls hw hH hl => ?_) m_14 (0 : Int32) S _ _ ls hw hH (lv_sub hl [2, 1, 0] rfl)
  refine lv_aload_n hx hb dX12_dayGoes_41 rfl (lv_at hl 0 rfl) ?_
  refine gf_r_2 hx hb hts hiX12 hown hK hn hH lk0 dX12_dayGoes_42 ?_
  refine lv_aload_n hx hb dX12_dayGoes_45 rfl (lv_at hl 0 rfl) ?_
  refine gf_r_3 hx hb hts hiX12 hown hK hn hH lk1 dX12_dayGoes_46 ?_
  refine lv_iconst (v := 0) hx hb dX12_dayGoes_49 (by decide +kernel) ?_
  refine lv_iadd hx hb dX12_dayGoes_50 ?_
  refine lv_dup2_11 hx hb dX12_dayGoes_51 rfl rfl ?_
  obtain ⟨hi_9, hw⟩ := hw
  refine k_ild hx hb hK hH (hn _ (by decide)) Er_3 hi_9 dX12_dayGoes_52 ?_
  refine lv_iconst (v := 1) hx hb dX12_dayGoes_53 (by decide +kernel) ?_
  refine lv_iadd hx hb dX12_dayGoes_54 ?_
  obtain ⟨hi_10, hw⟩ := hw
  refine k_ist hx hb hK hH (hn _ (by decide)) (fun _ => Er_3) hi_10 dX12_dayGoes_55 (fun S11 H locs eS11 hH => ?_)
  replace hw := hw S11 eS11
  exact k_vret hx hb hr hlocks hK hN hH hw dX12_dayGoes_56
