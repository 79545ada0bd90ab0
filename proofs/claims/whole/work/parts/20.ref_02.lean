def wj_X12_wantPane_67 (a1 : Int32) (r4 : Int32) (Q : St → Prop)  (u3_67 : Int32) (S_67 : St) : Prop := wp_X12_wantMark (59 : Int32) S_67 (fun S5 => (((gI S5 0 12) = 0 → Q S5) ∧ (¬ (gI S5 0 12) = 0 → (vp_in ((3 : Int32) * (gI S5 0 13)) 18 ∧ ∀ S8 : St, S8 = sA S5 7 ((3 : Int32) * (gI S5 0 13)).toNatClampNeg a1 → (vp_in (((3 : Int32) * (gI S8 0 13)) + (1 : Int32)) 18 ∧ ∀ S10 : St, S10 = sA S8 7 (((3 : Int32) * (gI S8 0 13)) + (1 : Int32)).toNatClampNeg r4 → (vp_in (((3 : Int32) * (gI S10 0 13)) + (2 : Int32)) 18 ∧ ∀ S12 : St, S12 = sA S10 7 (((3 : Int32) * (gI S10 0 13)) + (2 : Int32)).toNatClampNeg u3_67 → (∀ S13 : St, S13 = sI S12 0 13 ((gI S12 0 13) + (1 : Int32)) → Q S13)))))))
def wj_X12_wantPane_29 (a1 : Int32) (Q : St → Prop)   (S_29 : St) : Prop := wp_X12_wantNumber (1 : Int32) (16 : Int32) S_29 (fun r4 S3 => (((gI S3 0 12) = 0 → wj_X12_wantPane_67 a1 r4 Q (4 : Int32) S3) ∧ (¬ (gI S3 0 12) = 0 → wp_X12_isWord (47 : Int64) S3 (fun r16 S15 => ((r16 = 0 → wj_X12_wantPane_67 a1 r4 Q (4 : Int32) S15) ∧ (¬ r16 = 0 → wp_X12_advance S15 (fun S18 => wp_X12_wantNumber (0 : Int32) (3 : Int32) S18 (fun r20 S19 => wj_X12_wantPane_67 a1 r4 Q r20 S19))))))))
def wj_X12_wantPane_15 (a1 : Int32) (Q : St → Prop)  (q0_15 : Int32) (S_15 : St) : Prop := (isB q0_15 ∧ ∀ S1 : St, S1 = sI S_15 0 12 q0_15 → (((gI S1 0 12) = 0 → wj_X12_wantPane_29 a1 Q S1) ∧ (¬ (gI S1 0 12) = 0 → wp_X12_advance S1 (fun S22 => wj_X12_wantPane_29 a1 Q S22))))
def wp_X12_wantPane (a1 : Int32) (S : St) (Q : St → Prop) : Prop := (((6 : Int32) ≤ (gI S 0 13) → wj_X12_wantPane_15 a1 Q (0 : Int32) S) ∧ (¬ (6 : Int32) ≤ (gI S 0 13) → wj_X12_wantPane_15 a1 Q (1 : Int32) S))
set_option maxHeartbeats 4000000 in
set_option maxRecDepth 100000 in
theorem c_X12_wantPane (l : Launch) (D : va_G) (kA : Nat → ClassId) (ly : Nat → Nat) (n : List Nat) (hn : ∀ c, c < 20 → c ∈ n) (A : Nat → Prop) (a1 : Int32) : Cv l yX12_wantPane wsX12_wantPane 4 86 (Gp D (Er kA ly) ly n A kA) A [.ref (ly 0), .int a1] (wp_X12_wantPane a1) := by
  intro S Q
  refine Met.ofW (cc := cX12_wantPane) (maxL := 4) (ret := none) (by decide) rfl ?_
  intro p e s m args below meth c s₁ B hml hv
  obtain ⟨rfl, ⟨hP, hD, hK, hN⟩, hw⟩ := hv
  have hx := B.exec
  have hb := B.bytes
  have hr := B.returns
  have hts := atoms_spec (ws := wsX12_wantPane) B.pre
  have hown : s.vm.findClass RX12 = some m.cls := findClass_of_methodNamed B.named
  have hlocks := B.notSynchronized
  have hH : Hp D (Er kA ly) ly n A s.heap S s.heap [] := ⟨hP, hD, va_S.rf⟩
  have hiX12 : ∀ w ∈ u_ws RX12 TX12 39, w ∈ wsX12_wantPane := by decide +kernel
  have lk0 := hts (.fieldLink RX12 143 "SlowPanesModel" "freshMany" "I") (by decide +kernel)
  have lk1 := hts (.fieldLink RX12 133 "SlowPanesModel" "good" "Z") (by decide +kernel)
  have lk2 := hts (.fieldLink RX12 32 "SlowPanesModel" "freshPanes" "[I") (by decide +kernel)
  have lk3 := hts (.constantLong RX12 150 (47)) (by decide +kernel)
  have hl := lv_entry ([.ref (ly 0), .int a1]) (n := 4) (Nat.le_of_ble_eq_true rfl)
  rw [lg_entry_eq]
  generalize (lg_sl ([.ref (ly 0), .int a1]) ++ List.replicate (4 - (lg_sl ([.ref (ly 0), .int a1])).length) Slot.unset).toArray = ls at hl ⊢
  have hl : lv_has ls 4 [(0, .ref (ly 0)), (1, .int a1)] := hl
  rw [wp_X12_wantPane] at hw
  refine lv_aload_n hx hb dX12_wantPane_0 rfl (lv_at hl 0 rfl) ?_
  refine lv_aload_n hx hb dX12_wantPane_1 rfl (lv_at hl 0 rfl) ?_
  refine gf_r_13 hx hb hts hiX12 hown hK hn hH lk0 dX12_wantPane_2 ?_
  refine lv_bipush (v := 6) hx hb dX12_wantPane_5 (by decide +kernel) ?_
  have J_15 : ∀ (q0_15 : Int32) (S_15 : St) (H : Heap) (locs : List Loc) (ls : Array Slot), wj_X12_wantPane_15 a1 Q q0_15 S_15 → Hp D (Er kA ly) ly n A s.heap S_15 H locs → lv_has ls 4 [(0, .ref (ly 0)), (1, .int a1)] → W p l e (headSpec wsX12_wantPane { frames := 4, cells := 0, slots := 0, locals := 86 }).room s m [.ref (ly 0), .int a1].toArray below meth c H locs 0 0 (MQ below (va_Qv Q (Gp D (Er kA ly) ly n A kA) A) [.ref (ly 0), .int a1].toArray s 0 0 A) (F0 m 15 ls [.int q0_15, .ref (ly 0)]) := by
    intro q0_15 S_15 H locs ls hw hH hl
    rw [wj_X12_wantPane_15] at hw
    obtain ⟨hb2, hw⟩ := hw
    refine pf_r_12 hx hb hts hiX12 hown hK hn hH lk1 hb2 dX12_wantPane_15 (fun S1 H locs eS1 hH => ?_)
    replace hw := hw S1 eS1
    refine lv_aload_n hx hb dX12_wantPane_18 rfl (lv_at hl 0 rfl) ?_
    refine gf_r_12 hx hb hts hiX12 hown hK hn hH lk1 dX12_wantPane_19 ?_
    have J_29 : ∀  (S_29 : St) (H : Heap) (locs : List Loc) (ls : Array Slot), wj_X12_wantPane_29 a1 Q S_29 → Hp D (Er kA ly) ly n A s.heap S_29 H locs → lv_has ls 4 [(0, .ref (ly 0)), (1, .int a1)] → W p l e (headSpec wsX12_wantPane { frames := 4, cells := 0, slots := 0, locals := 86 }).room s m [.ref (ly 0), .int a1].toArray below meth c H locs 0 0 (MQ below (va_Qv Q (Gp D (Er kA ly) ly n A kA) A) [.ref (ly 0), .int a1].toArray s 0 0 A) (F0 m 29 ls []) := by
      intro S_29 H locs ls hw hH hl
      rw [wj_X12_wantPane_29] at hw
      refine lv_aload_n hx hb dX12_wantPane_29 rfl (lv_at hl 0 rfl) ?_
      refine lv_iconst (v := 1) hx hb dX12_wantPane_30 (by decide +kernel) ?_
      refine lv_bipush (v := 16) hx hb dX12_wantPane_31 (by decide +kernel) ?_
      refine k_afti (va_runV (As := [.int (1 : Int32), .int (16 : Int32)]) (rest := []) ⟨hx, hb, hml, hown, hts⟩ (c_X12_wantNumber l D kA ly n hn A (1 : Int32) (16 : Int32) S_29 _) (cwV 2 hts gX12_wantPane_X12_wantNumber rfl rfl rfl (by decide +kernel) ⟨(Nat.le_of_ble_eq_true rfl), (Nat.le_of_ble_eq_true rfl)⟩) ⟨k_blind, (k_recv hK hH (hn _ (by decide)) Er_0 rfl), k_pre hK hN hH hw⟩ rfl rfl hl.1 rfl (lv_room (Nat.le_of_ble_eq_true rfl)) dX12_wantPane_33 ⟨Nat.le_refl _, Nat.le_refl _⟩) hH (fun r4 S3 H locs hw hH => ?_)
      refine lv_istore_n (lv' := [(2, .int r4), (0, .ref (ly 0)), (1, .int a1)]) hx hb dX12_wantPane_36 rfl hl (by decide) rfl (fun ls hl => ?_)
      refine lv_iconst (v := 4) hx hb dX12_wantPane_37 (by decide +kernel) ?_
      refine lv_istore_n (lv' := [(3, .int (4 : Int32)), (2, .int r4), (0, .ref (ly 0)), (1, .int a1)]) hx hb dX12_wantPane_38 rfl hl (by decide) rfl (fun ls hl => ?_)
      refine lv_aload_n hx hb dX12_wantPane_39 rfl (lv_at hl 2 rfl) ?_
      refine gf_r_12 hx hb hts hiX12 hown hK hn hH lk1 dX12_wantPane_40 ?_
      have J_67 : ∀ (u3_67 : Int32) (S_67 : St) (H : Heap) (locs : List Loc) (ls : Array Slot), wj_X12_wantPane_67 a1 r4 Q u3_67 S_67 → Hp D (Er kA ly) ly n A s.heap S_67 H locs → lv_has ls 4 [(0, .ref (ly 0)), (1, .int a1), (2, .int r4), (3, .int u3_67)] → W p l e (headSpec wsX12_wantPane { frames := 4, cells := 0, slots := 0, locals := 86 }).room s m [.ref (ly 0), .int a1].toArray below meth c H locs 0 0 (MQ below (va_Qv Q (Gp D (Er kA ly) ly n A kA) A) [.ref (ly 0), .int a1].toArray s 0 0 A) (F0 m 67 ls []) := by
        intro u3_67 S_67 H locs ls hw hH hl
        rw [wj_X12_wantPane_67] at hw
        refine lv_aload_n hx hb dX12_wantPane_67 rfl (lv_at hl 0 rfl) ?_
        refine lv_bipush (v := 59) hx hb dX12_wantPane_68 (by decide +kernel) ?_
        refine k_aftv (va_runV (As := [.int (59 : Int32)]) (rest := []) ⟨hx, hb, hml, hown, hts⟩ (c_X12_wantMark l D kA ly n hn A (59 : Int32) S_67 _) (cwV 1 hts gX12_wantPane_X12_wantMark rfl rfl rfl (by decide +kernel) ⟨(Nat.le_of_ble_eq_true rfl), (Nat.le_of_ble_eq_true rfl)⟩) ⟨k_blind, (k_recv hK hH (hn _ (by decide)) Er_0 rfl), k_pre hK hN hH hw⟩ rfl rfl hl.1 rfl (lv_room (Nat.le_of_ble_eq_true rfl)) dX12_wantPane_70 ⟨Nat.le_refl _, Nat.le_refl _⟩) hH (fun S5 H locs hw hH => ?_)
        refine lv_aload_n hx hb dX12_wantPane_73 rfl (lv_at hl 0 rfl) ?_
        refine gf_r_12 hx hb hts hiX12 hown hK hn hH lk1 dX12_wantPane_74 ?_
        refine lv_if_eq (tgt := 130) hx hb dX12_wantPane_77 (by decide) (fun hc6 => ?_) (fun hc6 => ?_)
        · replace hw := hw.1 hc6
          exact k_vret hx hb hr hlocks hK hN hH hw dX12_wantPane_130
        · replace hw := hw.2 hc6
          refine lv_aload_n hx hb dX12_wantPane_80 rfl (lv_at hl 0 rfl) ?_
          refine gf_r_17 hx hb hts hiX12 hown hK hn hH lk2 dX12_wantPane_81 ?_
          refine lv_iconst (v := 3) hx hb dX12_wantPane_84 (by decide +kernel) ?_
          refine lv_aload_n hx hb dX12_wantPane_85 rfl (lv_at hl 0 rfl) ?_
          refine gf_r_13 hx hb hts hiX12 hown hK hn hH lk0 dX12_wantPane_86 ?_
          refine lv_imul hx hb dX12_wantPane_89 ?_
          refine lv_iload_n hx hb dX12_wantPane_90 rfl (lv_at hl 1 rfl) ?_
          obtain ⟨hi_7, hw⟩ := hw
          refine k_ist hx hb hK hH (hn _ (by decide)) (fun _ => Er_7) hi_7 dX12_wantPane_91 (fun S8 H locs eS8 hH => ?_)
          replace hw := hw S8 eS8
          refine lv_aload_n hx hb dX12_wantPane_92 rfl (lv_at hl 0 rfl) ?_
          refine gf_r_17 hx hb hts hiX12 hown hK hn hH lk2 dX12_wantPane_93 ?_
          refine lv_iconst (v := 3) hx hb dX12_wantPane_96 (by decide +kernel) ?_
          refine lv_aload_n hx hb dX12_wantPane_97 rfl (lv_at hl 0 rfl) ?_
          refine gf_r_13 hx hb hts hiX12 hown hK hn hH lk0 dX12_wantPane_98 ?_
          refine lv_imul hx hb dX12_wantPane_101 ?_
          refine lv_iconst (v := 1) hx hb dX12_wantPane_102 (by decide +kernel) ?_
          refine lv_iadd hx hb dX12_wantPane_103 ?_
          refine lv_iload_n hx hb dX12_wantPane_104 rfl (lv_at hl 2 rfl) ?_
          obtain ⟨hi_9, hw⟩ := hw
          refine k_ist hx hb hK hH (hn _ (by decide)) (fun _ => Er_7) hi_9 dX12_wantPane_105 (fun S10 H locs eS10 hH => ?_)
          replace hw := hw S10 eS10
          refine lv_aload_n hx hb dX12_wantPane_106 rfl (lv_at hl 0 rfl) ?_
          refine gf_r_17 hx hb hts hiX12 hown hK hn hH lk2 dX12_wantPane_107 ?_
          refine lv_iconst (v := 3) hx hb dX12_wantPane_110 (by decide +kernel) ?_
          refine lv_aload_n hx hb dX12_wantPane_111 rfl (lv_at hl 0 rfl) ?_
          refine gf_r_13 hx hb hts hiX12 hown hK hn hH lk0 dX12_wantPane_112 ?_
          refine lv_imul hx hb dX12_wantPane_115 ?_
          refine lv_iconst (v := 2) hx hb dX12_wantPane_116 (by decide +kernel) ?_
          refine lv_iadd hx hb dX12_wantPane_117 ?_
          refine lv_iload_n hx hb dX12_wantPane_118 rfl (lv_at hl 3 rfl) ?_
          obtain ⟨hi_11, hw⟩ := hw
          refine k_ist hx hb hK hH (hn _ (by decide)) (fun _ => Er_7) hi_11 dX12_wantPane_119 (fun S12 H locs eS12 hH => ?_)
          replace hw := hw S12 eS12
          refine lv_aload_n hx hb dX12_wantPane_120 rfl (lv_at hl 0 rfl) ?_
          refine lv_dup hx hb dX12_wantPane_121 rfl ?_
          refine gf_r_13 hx hb hts hiX12 hown hK hn hH lk0 dX12_wantPane_122 ?_
          refine lv_iconst (v := 1) hx hb dX12_wantPane_125 (by decide +kernel) ?_
          refine lv_iadd hx hb dX12_wantPane_126 ?_
          refine pf_r_13 hx hb hts hiX12 hown hK hn hH lk0 dX12_wantPane_127 (fun S13 H locs eS13 hH => ?_)
          replace hw := hw S13 eS13
          exact k_vret hx hb hr hlocks hK hN hH hw dX12_wantPane_130
      refine lv_if_eq (tgt := 67) hx hb dX12_wantPane_43 (by decide) (fun hc14 => ?_) (fun hc14 => ?_)
      · replace hw := hw.1 hc14
        exact J_67 (4 : Int32) S3 _ _ ls hw hH (lv_sub hl [2, 3, 1, 0] rfl)
      · replace hw := hw.2 hc14
        refine lv_aload_n hx hb dX12_wantPane_46 rfl (lv_at hl 2 rfl) ?_
        refine lv_ldc2 (v := 47) hx hb hown lk3 dX12_wantPane_47 ?_
        refine k_afti (va_runV (As := [.long (47 : Int64)]) (rest := []) ⟨hx, hb, hml, hown, hts⟩ (c_X12_isWord l D kA ly n hn A (47 : Int64) S3 _) (cwV 1 hts gX12_wantPane_X12_isWord rfl rfl rfl (by decide +kernel) ⟨(Nat.le_of_ble_eq_true rfl), (Nat.le_of_ble_eq_true rfl)⟩) ⟨k_blind, (k_recv hK hH (hn _ (by decide)) Er_0 rfl), k_pre hK hN hH hw⟩ rfl rfl hl.1 rfl (lv_room (Nat.le_of_ble_eq_true rfl)) dX12_wantPane_50 ⟨Nat.le_refl _, Nat.le_refl _⟩) hH (fun r16 S15 H locs hw hH => ?_)
        refine lv_if_eq (tgt := 67) hx hb dX12_wantPane_53 (by decide) (fun hc17 => ?_) (fun hc17 => ?_)
        · replace hw := hw.1 hc17
          exact J_67 (4 : Int32) S15 _ _ ls hw hH (lv_sub hl [2, 3, 1, 0] rfl)
        · replace hw := hw.2 hc17
          refine lv_aload_n hx hb dX12_wantPane_56 rfl (lv_at hl 2 rfl) ?_
          refine k_aftv (va_runV (As := []) (rest := []) ⟨hx, hb, hml, hown, hts⟩ (c_X12_advance l D kA ly n hn A S15 _) (cwV 0 hts gX12_wantPane_X12_advance rfl rfl rfl (by decide +kernel) ⟨(Nat.le_of_ble_eq_true rfl), (Nat.le_of_ble_eq_true rfl)⟩) ⟨k_blind, (k_recv hK hH (hn _ (by decide)) Er_0 rfl), k_pre hK hN hH hw⟩ rfl rfl hl.1 rfl (lv_room (Nat.le_of_ble_eq_true rfl)) dX12_wantPane_57 ⟨Nat.le_refl _, Nat.le_refl _⟩) hH (fun S18 H locs hw hH => ?_)
          refine lv_aload_n hx hb dX12_wantPane_60 rfl (lv_at hl 2 rfl) ?_
          refine lv_iconst (v := 0) hx hb dX12_wantPane_61 (by decide +kernel) ?_
          refine lv_iconst (v := 3) hx hb dX12_wantPane_62 (by decide +kernel) ?_
          refine k_afti (va_runV (As := [.int (0 : Int32), .int (3 : Int32)]) (rest := []) ⟨hx, hb, hml, hown, hts⟩ (c_X12_wantNumber l D kA ly n hn A (0 : Int32) (3 : Int32) S18 _) (cwV 2 hts gX12_wantPane_X12_wantNumber rfl rfl rfl (by decide +kernel) ⟨(Nat.le_of_ble_eq_true rfl), (Nat.le_of_ble_eq_true rfl)⟩) ⟨k_blind, (k_recv hK hH (hn _ (by decide)) Er_0 rfl), k_pre hK hN hH hw⟩ rfl rfl hl.1 rfl (lv_room (Nat.le_of_ble_eq_true rfl)) dX12_wantPane_63 ⟨Nat.le_refl _, Nat.le_refl _⟩) hH (fun r20 S19 H locs hw hH => ?_)
          refine lv_istore_n (lv' := [(3, .int r20), (2, .int r4), (0, .ref (ly 0)), (1, .int a1)]) hx hb dX12_wantPane_66 rfl hl (by decide) rfl (fun ls hl => ?_)
          exact J_67 r20 S19 _ _ ls hw hH (lv_sub hl [2, 3, 1, 0] rfl)
    refine lv_if_eq (tgt := 29) hx hb dX12_wantPane_22 (by decide) (fun hc21 => ?_) (fun hc21 => ?_)
    · replace hw := hw.1 hc21
      exact J_29  S1 _ _ ls hw hH (lv_sub hl [0, 1] rfl)
    · replace hw := hw.2 hc21
      refine lv_aload_n hx hb dX12_wantPane_25 rfl (lv_at hl 0 rfl) ?_
      refine k_aftv (va_runV (As := []) (rest := []) ⟨hx, hb, hml, hown, hts⟩ (c_X12_advance l D kA ly n hn A S1 _) (cwV 0 hts gX12_wantPane_X12_advance rfl rfl rfl (by decide +kernel) ⟨(Nat.le_of_ble_eq_true rfl), (Nat.le_of_ble_eq_true rfl)⟩) ⟨k_blind, (k_recv hK hH (hn _ (by decide)) Er_0 rfl), k_pre hK hN hH hw⟩ rfl rfl hl.1 rfl (lv_room (Nat.le_of_ble_eq_true rfl)) dX12_wantPane_26 ⟨Nat.le_refl _, Nat.le_refl _⟩) hH (fun S22 H locs hw hH => ?_)
      exact J_29  S22 _ _ ls hw hH (lv_sub hl [0, 1] rfl)
  refine lv_icmp_ge (tgt := 14) hx hb dX12_wantPane_7 (by decide) (fun hc23 => ?_) (fun hc23 => ?_)
  · replace hw := hw.1 hc23
    refine lv_iconst (v := 0) hx hb dX12_wantPane_14 (by decide +kernel) ?_
    exact J_15 (0 : Int32) S _ _ ls hw hH (lv_sub hl [0, 1] rfl)
  · replace hw := hw.2 hc23
    refine lv_iconst (v := 1) hx hb dX12_wantPane_10 (by decide +kernel) ?_
    refine lv_goto (tgt := 15) hx hb dX12_wantPane_11 (by decide) ?_
    exact J_15 (1 : Int32) S _ _ ls hw hH (lv_sub hl [0, 1] rfl)
def wj_X12_wantOneView_19 (a1 : Int32) (a2 : Int32) (Q : St → Prop)  (q0_19 : Int32) (S_19 : St) : Prop := (isB q0_19 ∧ ∀ S1 : St, S1 = sI S_19 0 12 q0_19 → wp_X12_wantNumber (0 : Int32) (99 : Int32) S1 (fun r4 S3 => (((gI S3 0 12) = 0 → Q S3) ∧ (¬ (gI S3 0 12) = 0 → (vp_in (((50 : Int32) * a1) + a2) 200 ∧ ∀ S7 : St, S7 = sA S3 5 (((50 : Int32) * a1) + a2).toNatClampNeg r4 → Q S7)))))
def wj_X12_wantOneView_18 (a1 : Int32) (a2 : Int32) (Q : St → Prop)   (S_18 : St) : Prop := wj_X12_wantOneView_19 a1 a2 Q (0 : Int32) S_18
def wp_X12_wantOneView (a1 : Int32) (a2 : Int32) (S : St) (Q : St → Prop) : Prop := (((gI S 0 12) = 0 → wj_X12_wantOneView_18 a1 a2 Q S) ∧ (¬ (gI S 0 12) = 0 → (((50 : Int32) ≤ a2 → wj_X12_wantOneView_18 a1 a2 Q S) ∧ (¬ (50 : Int32) ≤ a2 → wj_X12_wantOneView_19 a1 a2 Q (1 : Int32) S))))
set_option maxHeartbeats 4000000 in
set_option maxRecDepth 100000 in
theorem c_X12_wantOneView (l : Launch) (D : va_G) (kA : Nat → ClassId) (ly : Nat → Nat) (n : List Nat) (hn : ∀ c, c < 20 → c ∈ n) (A : Nat → Prop) (a1 : Int32) (a2 : Int32) : Cv l yX12_wantOneView wsX12_wantOneView 4 86 (Gp D (Er kA ly) ly n A kA) A [.ref (ly 0), .int a1, .int a2] (wp_X12_wantOneView a1 a2) := by
  intro S Q
  refine Met.ofW (cc := cX12_wantOneView) (maxL := 4) (ret := none) (by decide) rfl ?_
  intro p e s m args below meth c s₁ B hml hv
  obtain ⟨rfl, ⟨hP, hD, hK, hN⟩, hw⟩ := hv
  have hx := B.exec
  have hb := B.bytes
  have hr := B.returns
  have hts := atoms_spec (ws := wsX12_wantOneView) B.pre
  have hown : s.vm.findClass RX12 = some m.cls := findClass_of_methodNamed B.named
  have hlocks := B.notSynchronized
  have hH : Hp D (Er kA ly) ly n A s.heap S s.heap [] := ⟨hP, hD, va_S.rf⟩
  have hiX12 : ∀ w ∈ u_ws RX12 TX12 39, w ∈ wsX12_wantOneView := by decide +kernel
  have lk0 := hts (.fieldLink RX12 133 "SlowPanesModel" "good" "Z") (by decide +kernel)
  have lk1 := hts (.fieldLink RX12 26 "SlowPanesModel" "freshViews" "[I") (by decide +kernel)
  have hl := lv_entry ([.ref (ly 0), .int a1, .int a2]) (n := 4) (Nat.le_of_ble_eq_true rfl)
  rw [lg_entry_eq]
  generalize (lg_sl ([.ref (ly 0), .int a1, .int a2]) ++ List.replicate (4 - (lg_sl ([.ref (ly 0), .int a1, .int a2])).length) Slot.unset).toArray = ls at hl ⊢
  have hl : lv_has ls 4 [(0, .ref (ly 0)), (1, .int a1), (2, .int a2)] := hl
  rw [wp_X12_wantOneView] at hw
  refine lv_aload_n hx hb dX12_wantOneView_0 rfl (lv_at hl 0 rfl) ?_
  refine lv_aload_n hx hb dX12_wantOneView_1 rfl (lv_at hl 0 rfl) ?_
  refine gf_r_12 hx hb hts hiX12 hown hK hn hH lk0 dX12_wantOneView_2 ?_
  have J_19 : ∀ (q0_19 : Int32) (S_19 : St) (H : Heap) (locs : List Loc) (ls : Array Slot), wj_X12_wantOneView_19 a1 a2 Q q0_19 S_19 → Hp D (Er kA ly) ly n A s.heap S_19 H locs → lv_has ls 4 [(0, .ref (ly 0)), (1, .int a1), (2, .int a2)] → W p l e (headSpec wsX12_wantOneView { frames := 4, cells := 0, slots := 0, locals := 86 }).room s m [.ref (ly 0), .int a1, .int a2].toArray below meth c H locs 0 0 (MQ below (va_Qv Q (Gp D (Er kA ly) ly n A kA) A) [.ref (ly 0), .int a1, .int a2].toArray s 0 0 A) (F0 m 19 ls [.int q0_19, .ref (ly 0)]) := by
    intro q0_19 S_19 H locs ls hw hH hl
    rw [wj_X12_wantOneView_19] at hw
    obtain ⟨hb2, hw⟩ := hw
    refine pf_r_12 hx hb hts hiX12 hown hK hn hH lk0 hb2 dX12_wantOneView_19 (fun S1 H locs eS1 hH => ?_)
    replace hw := hw S1 eS1
    refine lv_aload_n hx hb dX12_wantOneView_22 rfl (lv_at hl 0 rfl) ?_
    refine lv_iconst (v := 0) hx hb dX12_wantOneView_23 (by decide +kernel) ?_
    refine lv_bipush (v := 99) hx hb dX12_wantOneView_24 (by decide +kernel) ?_
    refine k_afti (va_runV (As := [.int (0 : Int32), .int (99 : Int32)]) (rest := []) ⟨hx, hb, hml, hown, hts⟩ (c_X12_wantNumber l D kA ly n hn A (0 : Int32) (99 : Int32) S1 _) (cwV 2 hts gX12_wantOneView_X12_wantNumber rfl rfl rfl (by decide +kernel) ⟨(Nat.le_of_ble_eq_true rfl), (Nat.le_of_ble_eq_true rfl)⟩) ⟨k_blind, (k_recv hK hH (hn _ (by decide)) Er_0 rfl), k_pre hK hN hH hw⟩ rfl rfl hl.1 rfl (lv_room (Nat.le_of_ble_eq_true rfl)) dX12_wantOneView_26 ⟨Nat.le_refl _, Nat.le_refl _⟩) hH (fun r4 S3 H locs hw hH => ?_)
    refine lv_istore_n (lv' := [(3, .int r4), (0, .ref (ly 0)), (1, .int a1), (2, .int a2)]) hx hb dX12_wantOneView_29 rfl hl (by decide) rfl (fun ls hl => ?_)
    refine lv_aload_n hx hb dX12_wantOneView_30 rfl (lv_at hl 1 rfl) ?_
    refine gf_r_12 hx hb hts hiX12 hown hK hn hH lk0 dX12_wantOneView_31 ?_
    refine lv_if_eq (tgt := 49) hx hb dX12_wantOneView_34 (by decide) (fun hc5 => ?_) (fun hc5 => ?_)
    · replace hw := hw.1 hc5
      exact k_vret hx hb hr hlocks hK hN hH hw dX12_wantOneView_49
    · replace hw := hw.2 hc5
      refine lv_aload_n hx hb dX12_wantOneView_37 rfl (lv_at hl 1 rfl) ?_
      refine gf_r_15 hx hb hts hiX12 hown hK hn hH lk1 dX12_wantOneView_38 ?_
      refine lv_bipush (v := 50) hx hb dX12_wantOneView_41 (by decide +kernel) ?_
      refine lv_iload_n hx hb dX12_wantOneView_43 rfl (lv_at hl 2 rfl) ?_
      refine lv_imul hx hb dX12_wantOneView_44 ?_
      refine lv_iload_n hx hb dX12_wantOneView_45 rfl (lv_at hl 3 rfl) ?_
      refine lv_iadd hx hb dX12_wantOneView_46 ?_
      refine lv_iload_n hx hb dX12_wantOneView_47 rfl (lv_at hl 0 rfl) ?_
      obtain ⟨hi_6, hw⟩ := hw
      refine k_ist hx hb hK hH (hn _ (by decide)) (fun _ => Er_5) hi_6 dX12_wantOneView_48 (fun S7 H locs eS7 hH => ?_)
      replace hw := hw S7 eS7
      exact k_vret hx hb hr hlocks hK hN hH hw dX12_wantOneView_49
  have J_18 : ∀  (S_18 : St) (H : Heap) (locs : List Loc) (ls : Array Slot), wj_X12_wantOneView_18 a1 a2 Q S_18 → Hp D (Er kA ly) ly n A s.heap S_18 H locs → lv_has ls 4 [(0, .ref (ly 0)), (1, .int a1), (2, .int a2)] → W p l e (headSpec wsX12_wantOneView { frames := 4, cells := 0, slots := 0, locals := 86 }).room s m [.ref (ly 0), .int a1, .int a2].toArray below meth c H locs 0 0 (MQ below (va_Qv Q (Gp D (Er kA ly) ly n A kA) A) [.ref (ly 0), .int a1, .int a2].toArray s 0 0 A) (F0 m 18 ls [.ref (ly 0)]) := by
    intro S_18 H locs ls hw hH hl
    rw [wj_X12_wantOneView_18] at hw
    refine lv_iconst (v := 0) hx hb dX12_wantOneView_18 (by decide +kernel) ?_
    exact J_19 (0 : Int32) S_18 _ _ ls hw hH (lv_sub hl [0, 1, 2] rfl)
  refine lv_if_eq (tgt := 18) hx hb dX12_wantOneView_5 (by decide) (fun hc8 => ?_) (fun hc8 => ?_)
  · replace hw := hw.1 hc8
    exact J_18  S _ _ ls hw hH (lv_sub hl [0, 1, 2] rfl)
  · replace hw := hw.2 hc8
    refine lv_iload_n hx hb dX12_wantOneView_8 rfl (lv_at hl 2 rfl) ?_
    refine lv_bipush (v := 50) hx hb dX12_wantOneView_9 (by decide +kernel) ?_
    refine lv_icmp_ge (tgt := 18) hx hb dX12_wantOneView_11 (by decide) (fun hc9 => ?_) (fun hc9 => ?_)
    · replace hw := hw.1 hc9
      exact J_18  S _ _ ls hw hH (lv_sub hl [0, 1, 2] rfl)
    · replace hw := hw.2 hc9
      refine lv_iconst (v := 1) hx hb dX12_wantOneView_14 (by decide +kernel) ?_
      refine lv_goto (tgt := 19) hx hb dX12_wantOneView_15 (by decide) ?_
      exact J_19 (1 : Int32) S _ _ ls hw hH (lv_sub hl [0, 1, 2] rfl)
def wl_X12_wantViews_68 (r3 : Int32) (K_68 : Int32 → St → Prop) : Nat → Int32 → St → Prop
  | 0, _, _ => False
  | fu_68 + 1, v2_68, S_68 => (((gI S_68 0 12) = 0 → K_68 v2_68 S_68) ∧ (¬ (gI S_68 0 12) = 0 → wp_X12_isMark (44 : Int32) S_68 (fun r12 S11 => ((r12 = 0 → K_68 v2_68 S11) ∧ (¬ r12 = 0 → wp_X12_advance S11 (fun S14 => (∀ t15 : Int32, t15 = v2_68 + 1 → wp_X12_wantOneView r3 t15 S14 (fun S16 => wl_X12_wantViews_68 r3 K_68 fu_68 t15 S16))))))))
def wj_X12_wantViews_48 (r3 : Int32) (Q : St → Prop)   (S_48 : St) : Prop := wp_X12_wantNumber (0 : Int32) (49 : Int32) S_48 (fun r7 S6 => wp_X12_wantMark (58 : Int32) S6 (fun S8 => wp_X12_wantOneView r3 r7 S8 (fun S9 => (∃ m_68 : Nat, wl_X12_wantViews_68 r3 (fun e2_17 S18 => wp_X12_wantMark (59 : Int32) S18 (fun S19 => Q S19)) m_68 r7 S9))))
def wj_X12_wantViews_34 (r3 : Int32) (Q : St → Prop)  (q0_34 : Int32) (S_34 : St) : Prop := (isB q0_34 ∧ ∀ S4 : St, S4 = sI S_34 0 12 q0_34 → (((gI S4 0 12) = 0 → wj_X12_wantViews_48 r3 Q S4) ∧ (¬ (gI S4 0 12) = 0 → wp_X12_advance S4 (fun S21 => wj_X12_wantViews_48 r3 Q S21))))
def wj_X12_wantViews_33 (r3 : Int32) (Q : St → Prop)   (S_33 : St) : Prop := wj_X12_wantViews_34 r3 Q (0 : Int32) S_33
def wp_X12_wantViews  (S : St) (Q : St → Prop) : Prop := wp_X12_advance S (fun S1 => wp_X12_wantNumber (0 : Int32) (3 : Int32) S1 (fun r3 S2 => (((gI S2 0 12) = 0 → wj_X12_wantViews_33 r3 Q S2) ∧ (¬ (gI S2 0 12) = 0 → wp_X12_isWord (131638 : Int64) S2 (fun r24 S23 => ((r24 = 0 → wj_X12_wantViews_33 r3 Q S23) ∧ (¬ r24 = 0 → wj_X12_wantViews_34 r3 Q (1 : Int32) S23)))))))
set_option maxHeartbeats 4000000 in
set_option maxRecDepth 100000 in
theorem c_X12_wantViews (l : Launch) (D : va_G) (kA : Nat → ClassId) (ly : Nat → Nat) (n : List Nat) (hn : ∀ c, c < 20 → c ∈ n) (A : Nat → Prop)  : Cv l yX12_wantViews wsX12_wantViews 5 109 (Gp D (Er kA ly) ly n A kA) A [.ref (ly 0)] (wp_X12_wantViews) := by
  intro S Q
  refine Met.ofW (cc := cX12_wantViews) (maxL := 3) (ret := none) (by decide) rfl ?_
  intro p e s m args below meth c s₁ B hml hv
  obtain ⟨rfl, ⟨hP, hD, hK, hN⟩, hw⟩ := hv
  have hx := B.exec
  have hb := B.bytes
  have hr := B.returns
  have hts := atoms_spec (ws := wsX12_wantViews) B.pre
  have hown : s.vm.findClass RX12 = some m.cls := findClass_of_methodNamed B.named
  have hlocks := B.notSynchronized
  have hH : Hp D (Er kA ly) ly n A s.heap S s.heap [] := ⟨hP, hD, va_S.rf⟩
  have hiX12 : ∀ w ∈ u_ws RX12 TX12 39, w ∈ wsX12_wantViews := by decide +kernel
  have lk0 := hts (.fieldLink RX12 133 "SlowPanesModel" "good" "Z") (by decide +kernel)
  have lk1 := hts (.constantLong RX12 156 (131638)) (by decide +kernel)
  have hl := lv_entry ([.ref (ly 0)]) (n := 3) (Nat.le_of_ble_eq_true rfl)
  rw [lg_entry_eq]
  generalize (lg_sl ([.ref (ly 0)]) ++ List.replicate (3 - (lg_sl ([.ref (ly 0)])).length) Slot.unset).toArray = ls at hl ⊢
  have hl : lv_has ls 3 [(0, .ref (ly 0))] := hl
  rw [wp_X12_wantViews] at hw
  refine lv_aload_n hx hb dX12_wantViews_0 rfl (lv_at hl 0 rfl) ?_
  refine k_aftv (va_runV (As := []) (rest := []) ⟨hx, hb, hml, hown, hts⟩ (c_X12_advance l D kA ly n hn A S _) (cwV 0 hts gX12_wantViews_X12_advance rfl rfl rfl (by decide +kernel) ⟨(Nat.le_of_ble_eq_true rfl), (Nat.le_of_ble_eq_true rfl)⟩) ⟨k_blind, (k_recv hK hH (hn _ (by decide)) Er_0 rfl), k_pre hK hN hH hw⟩ rfl rfl hl.1 rfl (lv_room (Nat.le_of_ble_eq_true rfl)) dX12_wantViews_1 ⟨Nat.le_refl _, Nat.le_refl _⟩) hH (fun S1 H locs hw hH => ?_)
  refine lv_aload_n hx hb dX12_wantViews_4 rfl (lv_at hl 0 rfl) ?_
  refine lv_iconst (v := 0) hx hb dX12_wantViews_5 (by decide +kernel) ?_
  refine lv_iconst (v := 3) hx hb dX12_wantViews_6 (by decide +kernel) ?_
  refine k_afti (va_runV (As := [.int (0 : Int32), .int (3 : Int32)]) (rest := []) ⟨hx, hb, hml, hown, hts⟩ (c_X12_wantNumber l D kA ly n hn A (0 : Int32) (3 : Int32) S1 _) (cwV 2 hts gX12_wantViews_X12_wantNumber rfl rfl rfl (by decide +kernel) ⟨(Nat.le_of_ble_eq_true rfl), (Nat.le_of_ble_eq_true rfl)⟩) ⟨k_blind, (k_recv hK hH (hn _ (by decide)) Er_0 rfl), k_pre hK hN hH hw⟩ rfl rfl hl.1 rfl (lv_room (Nat.le_of_ble_eq_true rfl)) dX12_wantViews_7 ⟨Nat.le_refl _, Nat.le_refl _⟩) hH (fun r3 S2 H locs hw hH => ?_)
  refine lv_istore_n (lv' := [(1, .int r3), (0, .ref (ly 0))]) hx hb dX12_wantViews_10 rfl hl (by decide) rfl (fun ls hl => ?_)
  refine lv_aload_n hx hb dX12_wantViews_11 rfl (lv_at hl 1 rfl) ?_
  refine lv_aload_n hx hb dX12_wantViews_12 rfl (lv_at hl 1 rfl) ?_
  refine gf_r_12 hx hb hts hiX12 hown hK hn hH lk0 dX12_wantViews_13 ?_
  have J_34 : ∀ (q0_34 : Int32) (S_34 : St) (H : Heap) (locs : List Loc) (ls : Array Slot), wj_X12_wantViews_34 r3 Q q0_34 S_34 → Hp D (Er kA ly) ly n A s.heap S_34 H locs → lv_has ls 3 [(0, .ref (ly 0)), (1, .int r3)] → W p l e (headSpec wsX12_wantViews { frames := 5, cells := 0, slots := 0, locals := 109 }).room s m [.ref (ly 0)].toArray below meth c H locs 0 0 (MQ below (va_Qv Q (Gp D (Er kA ly) ly n A kA) A) [.ref (ly 0)].toArray s 0 0 A) (F0 m 34 ls [.int q0_34, .ref (ly 0)]) := by
    intro q0_34 S_34 H locs ls hw hH hl
    rw [wj_X12_wantViews_34] at hw
    obtain ⟨hb5, hw⟩ := hw
    refine pf_r_12 hx hb hts hiX12 hown hK hn hH lk0 hb5 dX12_wantViews_34 (fun S4 H locs eS4 hH => ?_)
    replace hw := hw S4 eS4
    refine lv_aload_n hx hb dX12_wantViews_37 rfl (lv_at hl 0 rfl) ?_
    refine gf_r_12 hx hb hts hiX12 hown hK hn hH lk0 dX12_wantViews_38 ?_
    have J_48 : ∀  (S_48 : St) (H : Heap) (locs : List Loc) (ls : Array Slot), wj_X12_wantViews_48 r3 Q S_48 → Hp D (Er kA ly) ly n A s.heap S_48 H locs → lv_has ls 3 [(0, .ref (ly 0)), (1, .int r3)] → W p l e (headSpec wsX12_wantViews { frames := 5, cells := 0, slots := 0, locals := 109 }).room s m [.ref (ly 0)].toArray below meth c H locs 0 0 (MQ below (va_Qv Q (Gp D (Er kA ly) ly n A kA) A) [.ref (ly 0)].toArray s 0 0 A) (F0 m 48 ls []) := by
      intro S_48 H locs ls hw hH hl
      rw [wj_X12_wantViews_48] at hw
      refine lv_aload_n hx hb dX12_wantViews_48 rfl (lv_at hl 0 rfl) ?_
      refine lv_iconst (v := 0) hx hb dX12_wantViews_49 (by decide +kernel) ?_
      refine lv_bipush (v := 49) hx hb dX12_wantViews_50 (by decide +kernel) ?_
      refine k_afti (va_runV (As := [.int (0 : Int32), .int (49 : Int32)]) (rest := []) ⟨hx, hb, hml, hown, hts⟩ (c_X12_wantNumber l D kA ly n hn A (0 : Int32) (49 : Int32) S_48 _) (cwV 2 hts gX12_wantViews_X12_wantNumber rfl rfl rfl (by decide +kernel) ⟨(Nat.le_of_ble_eq_true rfl), (Nat.le_of_ble_eq_true rfl)⟩) ⟨k_blind, (k_recv hK hH (hn _ (by decide)) Er_0 rfl), k_pre hK hN hH hw⟩ rfl rfl hl.1 rfl (lv_room (Nat.le_of_ble_eq_true rfl)) dX12_wantViews_52 ⟨Nat.le_refl _, Nat.le_refl _⟩) hH (fun r7 S6 H locs hw hH => ?_)
      refine lv_istore_n (lv' := [(2, .int r7), (0, .ref (ly 0)), (1, .int r3)]) hx hb dX12_wantViews_55 rfl hl (by decide) rfl (fun ls hl => ?_)
      refine lv_aload_n hx hb dX12_wantViews_56 rfl (lv_at hl 1 rfl) ?_
      refine lv_bipush (v := 58) hx hb dX12_wantViews_57 (by decide +kernel) ?_
      refine k_aftv (va_runV (As := [.int (58 : Int32)]) (rest := []) ⟨hx, hb, hml, hown, hts⟩ (c_X12_wantMark l D kA ly n hn A (58 : Int32) S6 _) (cwV 1 hts gX12_wantViews_X12_wantMark rfl rfl rfl (by decide +kernel) ⟨(Nat.le_of_ble_eq_true rfl), (Nat.le_of_ble_eq_true rfl)⟩) ⟨k_blind, (k_recv hK hH (hn _ (by decide)) Er_0 rfl), k_pre hK hN hH hw⟩ rfl rfl hl.1 rfl (lv_room (Nat.le_of_ble_eq_true rfl)) dX12_wantViews_59 ⟨Nat.le_refl _, Nat.le_refl _⟩) hH (fun S8 H locs hw hH => ?_)
      refine lv_aload_n hx hb dX12_wantViews_62 rfl (lv_at hl 1 rfl) ?_
      refine lv_iload_n hx hb dX12_wantViews_63 rfl (lv_at hl 2 rfl) ?_
      refine lv_iload_n hx hb dX12_wantViews_64 rfl (lv_at hl 0 rfl) ?_
      refine k_aftv (va_runV (As := [.int r3, .int r7]) (rest := []) ⟨hx, hb, hml, hown, hts⟩ (c_X12_wantOneView l D kA ly n hn A r3 r7 S8 _) (cwV 2 hts gX12_wantViews_X12_wantOneView rfl rfl rfl (by decide +kernel) ⟨(Nat.le_of_ble_eq_true rfl), (Nat.le_of_ble_eq_true rfl)⟩) ⟨k_blind, (k_recv hK hH (hn _ (by decide)) Er_0 rfl), k_pre hK hN hH hw⟩ rfl rfl hl.1 rfl (lv_room (Nat.le_of_ble_eq_true rfl)) dX12_wantViews_65 ⟨Nat.le_refl _, Nat.le_refl _⟩) hH (fun S9 H locs hw hH => ?_)
      have L_68 : ∀ (K_68 : Int32 → St → Prop) (hk_68 : ∀ (v2_68 : Int32) (S_68 : St) (H : Heap) (locs : List Loc) (ls : Array Slot), K_68 v2_68 S_68 → Hp D (Er kA ly) ly n A s.heap S_68 H locs → lv_has ls 3 [(0, .ref (ly 0)), (1, .int r3), (2, .int v2_68)] → W p l e (headSpec wsX12_wantViews { frames := 5, cells := 0, slots := 0, locals := 109 }).room s m [.ref (ly 0)].toArray below meth c H locs 0 0 (MQ below (va_Qv Q (Gp D (Er kA ly) ly n A kA) A) [.ref (ly 0)].toArray s 0 0 A) (F0 m 100 ls [])) (fu_68 : Nat) (v2_68 : Int32) (S_68 : St) (H : Heap) (locs : List Loc) (ls : Array Slot), wl_X12_wantViews_68 r3 K_68 fu_68 v2_68 S_68 → Hp D (Er kA ly) ly n A s.heap S_68 H locs → lv_has ls 3 [(0, .ref (ly 0)), (1, .int r3), (2, .int v2_68)] → W p l e (headSpec wsX12_wantViews { frames := 5, cells := 0, slots := 0, locals := 109 }).room s m [.ref (ly 0)].toArray below meth c H locs 0 0 (MQ below (va_Qv Q (Gp D (Er kA ly) ly n A kA) A) [.ref (ly 0)].toArray s 0 0 A) (F0 m 68 ls []) := by
        intro K_68 hk_68 fu_68
        induction fu_68 with
        | zero => intro v2_68 S_68 H locs ls hw hH hl; rw [wl_X12_wantViews_68] at hw; exact hw.elim
        | succ fu_68 ih_68 =>
          intro v2_68 S_68 H locs ls hw hH hl
          rw [wl_X12_wantViews_68] at hw
          refine lv_aload_n hx hb dX12_wantViews_68 rfl (lv_at hl 0 rfl) ?_
          refine gf_r_12 hx hb hts hiX12 hown hK hn hH lk0 dX12_wantViews_69 ?_
          refine lv_if_eq (tgt := 100) hx hb dX12_wantViews_72 (by decide) (fun hc10 => ?_) (fun hc10 => ?_)
          · replace hw := hw.1 hc10
            exact hk_68 v2_68 S_68 _ _ ls hw hH (lv_sub hl [0, 1, 2] rfl)
          · replace hw := hw.2 hc10
            refine lv_aload_n hx hb dX12_wantViews_75 rfl (lv_at hl 0 rfl) ?_
            refine lv_bipush (v := 44) hx hb dX12_wantViews_76 (by decide +kernel) ?_
            refine k_afti (va_runV (As := [.int (44 : Int32)]) (rest := []) ⟨hx, hb, hml, hown, hts⟩ (c_X12_isMark l D kA ly n hn A (44 : Int32) S_68 _) (cwV 1 hts gX12_wantViews_X12_isMark rfl rfl rfl (by decide +kernel) ⟨(Nat.le_of_ble_eq_true rfl), (Nat.le_of_ble_eq_true rfl)⟩) ⟨k_blind, (k_recv hK hH (hn _ (by decide)) Er_0 rfl), k_pre hK hN hH hw⟩ rfl rfl hl.1 rfl (lv_room (Nat.le_of_ble_eq_true rfl)) dX12_wantViews_78 ⟨Nat.le_refl _, Nat.le_refl _⟩) hH (fun r12 S11 H locs hw hH => ?_)
            refine lv_if_eq (tgt := 100) hx hb dX12_wantViews_81 (by decide) (fun hc13 => ?_) (fun hc13 => ?_)
            · replace hw := hw.1 hc13
              exact hk_68 v2_68 S11 _ _ ls hw hH (lv_sub hl [0, 1, 2] rfl)
            · replace hw := hw.2 hc13
              refine lv_aload_n hx hb dX12_wantViews_84 rfl (lv_at hl 0 rfl) ?_
              refine k_aftv (va_runV (As := []) (rest := []) ⟨hx, hb, hml, hown, hts⟩ (c_X12_advance l D kA ly n hn A S11 _) (cwV 0 hts gX12_wantViews_X12_advance rfl rfl rfl (by decide +kernel) ⟨(Nat.le_of_ble_eq_true rfl), (Nat.le_of_ble_eq_true rfl)⟩) ⟨k_blind, (k_recv hK hH (hn _ (by decide)) Er_0 rfl), k_pre hK hN hH hw⟩ rfl rfl hl.1 rfl (lv_room (Nat.le_of_ble_eq_true rfl)) dX12_wantViews_85 ⟨Nat.le_refl _, Nat.le_refl _⟩) hH (fun S14 H locs hw hH => ?_)
              obtain ⟨t15, et15⟩ : ∃ y : Int32, y = v2_68 + 1 := ⟨_, rfl⟩
              replace hw := hw t15 et15
              refine lv_iinc (v := t15) (lv' := [(2, .int t15), (0, .ref (ly 0)), (1, .int r3)]) hx hb dX12_wantViews_88 hl (k := 2) rfl (by rw [et15]; rfl) (by decide) rfl (fun ls hl => ?_)
              refine lv_aload_n hx hb dX12_wantViews_91 rfl (lv_at hl 1 rfl) ?_
              refine lv_iload_n hx hb dX12_wantViews_92 rfl (lv_at hl 2 rfl) ?_
              refine lv_iload_n hx hb dX12_wantViews_93 rfl (lv_at hl 0 rfl) ?_
              refine k_aftv (va_runV (As := [.int r3, .int t15]) (rest := []) ⟨hx, hb, hml, hown, hts⟩ (c_X12_wantOneView l D kA ly n hn A r3 t15 S14 _) (cwV 2 hts gX12_wantViews_X12_wantOneView rfl rfl rfl (by decide +kernel) ⟨(Nat.le_of_ble_eq_true rfl), (Nat.le_of_ble_eq_true rfl)⟩) ⟨k_blind, (k_recv hK hH (hn _ (by decide)) Er_0 rfl), k_pre hK hN hH hw⟩ rfl rfl hl.1 rfl (lv_room (Nat.le_of_ble_eq_true rfl)) dX12_wantViews_94 ⟨Nat.le_refl _, Nat.le_refl _⟩) hH (fun S16 H locs hw hH => ?_)
              refine lv_goto (tgt := 68) hx hb dX12_wantViews_97 (by decide) ?_
              exact ih_68 t15 S16 _ _ ls hw hH (lv_sub hl [1, 2, 0] rfl)
      obtain ⟨m_68, hw⟩ := hw
      refine L_68 _ (fun e2_17 S18 H locs ls hw hH hl => ?_) m_68 r7 S9 _ _ ls hw hH (lv_sub hl [1, 2, 0] rfl)
      refine lv_aload_n hx hb dX12_wantViews_100 rfl (lv_at hl 0 rfl) ?_
      refine lv_bipush (v := 59) hx hb dX12_wantViews_101 (by decide +kernel) ?_
      refine k_aftv (va_runV (As := [.int (59 : Int32)]) (rest := []) ⟨hx, hb, hml, hown, hts⟩ (c_X12_wantMark l D kA ly n hn A (59 : Int32) S18 _) (cwV 1 hts gX12_wantViews_X12_wantMark rfl rfl rfl (by decide +kernel) ⟨(Nat.le_of_ble_eq_true rfl), (Nat.le_of_ble_eq_true rfl)⟩) ⟨k_blind, (k_recv hK hH (hn _ (by decide)) Er_0 rfl), k_pre hK hN hH hw⟩ rfl rfl hl.1 rfl (lv_room (Nat.le_of_ble_eq_true rfl)) dX12_wantViews_103 ⟨Nat.le_refl _, Nat.le_refl _⟩) hH (fun S19 H locs hw hH => ?_)
      exact k_vret hx hb hr hlocks hK hN hH hw dX12_wantViews_106
    refine lv_if_eq (tgt := 48) hx hb dX12_wantViews_41 (by decide) (fun hc20 => ?_) (fun hc20 => ?_)
    · replace hw := hw.1 hc20
      exact J_48  S4 _ _ ls hw hH (lv_sub hl [0, 1] rfl)
    · replace hw := hw.2 hc20
      refine lv_aload_n hx hb dX12_wantViews_44 rfl (lv_at hl 0 rfl) ?_
      refine k_aftv (va_runV (As := []) (rest := []) ⟨hx, hb, hml, hown, hts⟩ (c_X12_advance l D kA ly n hn A S4 _) (cwV 0 hts gX12_wantViews_X12_advance rfl rfl rfl (by decide +kernel) ⟨(Nat.le_of_ble_eq_true rfl), (Nat.le_of_ble_eq_true rfl)⟩) ⟨k_blind, (k_recv hK hH (hn _ (by decide)) Er_0 rfl), k_pre hK hN hH hw⟩ rfl rfl hl.1 rfl (lv_room (Nat.le_of_ble_eq_true rfl)) dX12_wantViews_45 ⟨Nat.le_refl _, Nat.le_refl _⟩) hH (fun S21 H locs hw hH => ?_)
      exact J_48  S21 _ _ ls hw hH (lv_sub hl [0, 1] rfl)
  have J_33 : ∀  (S_33 : St) (H : Heap) (locs : List Loc) (ls : Array Slot), wj_X12_wantViews_33 r3 Q S_33 → Hp D (Er kA ly) ly n A s.heap S_33 H locs → lv_has ls 3 [(0, .ref (ly 0)), (1, .int r3)] → W p l e (headSpec wsX12_wantViews { frames := 5, cells := 0, slots := 0, locals := 109 }).room s m [.ref (ly 0)].toArray below meth c H locs 0 0 (MQ below (va_Qv Q (Gp D (Er kA ly) ly n A kA) A) [.ref (ly 0)].toArray s 0 0 A) (F0 m 33 ls [.ref (ly 0)]) := by
    intro S_33 H locs ls hw hH hl
    rw [wj_X12_wantViews_33] at hw
    refine lv_iconst (v := 0) hx hb dX12_wantViews_33 (by decide +kernel) ?_
    exact J_34 (0 : Int32) S_33 _ _ ls hw hH (lv_sub hl [0, 1] rfl)
  refine lv_if_eq (tgt := 33) hx hb dX12_wantViews_16 (by decide) (fun hc22 => ?_) (fun hc22 => ?_)
  · replace hw := hw.1 hc22
    exact J_33  S2 _ _ ls hw hH (lv_sub hl [1, 0] rfl)
  · replace hw := hw.2 hc22
    refine lv_aload_n hx hb dX12_wantViews_19 rfl (lv_at hl 1 rfl) ?_
    refine lv_ldc2 (v := 131638) hx hb hown lk1 dX12_wantViews_20 ?_
    refine k_afti (va_runV (As := [.long (131638 : Int64)]) (rest := [.ref (ly 0)]) ⟨hx, hb, hml, hown, hts⟩ (c_X12_isWord l D kA ly n hn A (131638 : Int64) S2 _) (cwV 1 hts gX12_wantViews_X12_isWord rfl rfl rfl (by decide +kernel) ⟨(Nat.le_of_ble_eq_true rfl), (Nat.le_of_ble_eq_true rfl)⟩) ⟨k_blind, (k_recv hK hH (hn _ (by decide)) Er_0 rfl), k_pre hK hN hH hw⟩ rfl rfl hl.1 rfl (lv_room (Nat.le_of_ble_eq_true rfl)) dX12_wantViews_23 ⟨Nat.le_refl _, Nat.le_refl _⟩) hH (fun r24 S23 H locs hw hH => ?_)
    refine lv_if_eq (tgt := 33) hx hb dX12_wantViews_26 (by decide) (fun hc25 => ?_) (fun hc25 => ?_)
    · replace hw := hw.1 hc25
      exact J_33  S23 _ _ ls hw hH (lv_sub hl [1, 0] rfl)
    · replace hw := hw.2 hc25
      refine lv_iconst (v := 1) hx hb dX12_wantViews_29 (by decide +kernel) ?_
      refine lv_goto (tgt := 34) hx hb dX12_wantViews_30 (by decide) ?_
      exact J_34 (1 : Int32) S23 _ _ ls hw hH (lv_sub hl [1, 0] rfl)
def wl_X12_wantLove_13  (K_13 : Int32 → St → Prop) : Nat → Int32 → St → Prop
  | 0, _, _ => False
  | fu_13 + 1, v2_13, S_13 => (((4 : Int32) ≤ v2_13 → K_13 v2_13 S_13) ∧ (¬ (4 : Int32) ≤ v2_13 → wp_X12_wantNumber (0 : Int32) (9 : Int32) S_13 (fun r6 S5 => (vp_in v2_13 4 ∧ ∀ S8 : St, S8 = sA S5 8 v2_13.toNatClampNeg r6 → (∀ t9 : Int32, t9 = v2_13 + 1 → wl_X12_wantLove_13 K_13 fu_13 t9 S8)))))
def wl_X12_wantLove_45 (r3 : Int32) (K_45 : Int32 → St → Prop) : Nat → Int32 → St → Prop
  | 0, _, _ => False
  | fu_45 + 1, v2_45, S_45 => (((4 : Int32) ≤ v2_45 → K_45 v2_45 S_45) ∧ (¬ (4 : Int32) ≤ v2_45 → (((gI S_45 0 12) = 0 → K_45 v2_45 S_45) ∧ (¬ (gI S_45 0 12) = 0 → (vp_in v2_45 4 ∧ (vp_in (((4 : Int32) * r3) + v2_45) 12 ∧ ∀ S17 : St, S17 = sA S_45 6 (((4 : Int32) * r3) + v2_45).toNatClampNeg (gA S_45 8 v2_45.toNatClampNeg) → (∀ t18 : Int32, t18 = v2_45 + 1 → wl_X12_wantLove_45 r3 K_45 fu_45 t18 S17)))))))
def wp_X12_wantLove  (S : St) (Q : St → Prop) : Prop := wp_X12_advance S (fun S1 => wp_X12_wantNumber (0 : Int32) (2 : Int32) S1 (fun r3 S2 => (∃ m_13 : Nat, wl_X12_wantLove_13 (fun e2_10 S11 => wp_X12_wantMark (59 : Int32) S11 (fun S12 => (∃ m_45 : Nat, wl_X12_wantLove_45 r3 (fun e2_19 S20 => Q S20) m_45 (0 : Int32) S12))) m_13 (0 : Int32) S2)))
set_option maxHeartbeats 4000000 in
set_option maxRecDepth 100000 in
theorem c_X12_wantLove (l : Launch) (D : va_G) (kA : Nat → ClassId) (ly : Nat → Nat) (n : List Nat) (hn : ∀ c, c < 20 → c ∈ n) (A : Nat → Prop)  : Cv l yX12_wantLove wsX12_wantLove 4 86 (Gp D (Er kA ly) ly n A kA) A [.ref (ly 0)] (wp_X12_wantLove) := by
  intro S Q
  refine Met.ofW (cc := cX12_wantLove) (maxL := 3) (ret := none) (by decide) rfl ?_
  intro p e s m args below meth c s₁ B hml hv
  obtain ⟨rfl, ⟨hP, hD, hK, hN⟩, hw⟩ := hv
  have hx := B.exec
  have hb := B.bytes
  have hr := B.returns
  have hts := atoms_spec (ws := wsX12_wantLove) B.pre
  have hown : s.vm.findClass RX12 = some m.cls := findClass_of_methodNamed B.named
  have hlocks := B.notSynchronized
  have hH : Hp D (Er kA ly) ly n A s.heap S s.heap [] := ⟨hP, hD, va_S.rf⟩
  have hiX12 : ∀ w ∈ u_ws RX12 TX12 39, w ∈ wsX12_wantLove := by decide +kernel
  have lk0 := hts (.fieldLink RX12 35 "SlowPanesModel" "four" "[I") (by decide +kernel)
  have lk1 := hts (.fieldLink RX12 133 "SlowPanesModel" "good" "Z") (by decide +kernel)
  have lk2 := hts (.fieldLink RX12 29 "SlowPanesModel" "freshLoves" "[I") (by decide +kernel)
  have hl := lv_entry ([.ref (ly 0)]) (n := 3) (Nat.le_of_ble_eq_true rfl)
  rw [lg_entry_eq]
  generalize (lg_sl ([.ref (ly 0)]) ++ List.replicate (3 - (lg_sl ([.ref (ly 0)])).length) Slot.unset).toArray = ls at hl ⊢
  have hl : lv_has ls 3 [(0, .ref (ly 0))] := hl
  rw [wp_X12_wantLove] at hw
  refine lv_aload_n hx hb dX12_wantLove_0 rfl (lv_at hl 0 rfl) ?_
  refine k_aftv (va_runV (As := []) (rest := []) ⟨hx, hb, hml, hown, hts⟩ (c_X12_advance l D kA ly n hn A S _) (cwV 0 hts gX12_wantLove_X12_advance rfl rfl rfl (by decide +kernel) ⟨(Nat.le_of_ble_eq_true rfl), (Nat.le_of_ble_eq_true rfl)⟩) ⟨k_blind, (k_recv hK hH (hn _ (by decide)) Er_0 rfl), k_pre hK hN hH hw⟩ rfl rfl hl.1 rfl (lv_room (Nat.le_of_ble_eq_true rfl)) dX12_wantLove_1 ⟨Nat.le_refl _, Nat.le_refl _⟩) hH (fun S1 H locs hw hH => ?_)
  refine lv_aload_n hx hb dX12_wantLove_4 rfl (lv_at hl 0 rfl) ?_
  refine lv_iconst (v := 0) hx hb dX12_wantLove_5 (by decide +kernel) ?_
  refine lv_iconst (v := 2) hx hb dX12_wantLove_6 (by decide +kernel) ?_
  refine k_afti (va_runV (As := [.int (0 : Int32), .int (2 : Int32)]) (rest := []) ⟨hx, hb, hml, hown, hts⟩ (c_X12_wantNumber l D kA ly n hn A (0 : Int32) (2 : Int32) S1 _) (cwV 2 hts gX12_wantLove_X12_wantNumber rfl rfl rfl (by decide +kernel) ⟨(Nat.le_of_ble_eq_true rfl), (Nat.le_of_ble_eq_true rfl)⟩) ⟨k_blind, (k_recv hK hH (hn _ (by decide)) Er_0 rfl), k_pre hK hN hH hw⟩ rfl rfl hl.1 rfl (lv_room (Nat.le_of_ble_eq_true rfl)) dX12_wantLove_7 ⟨Nat.le_refl _, Nat.le_refl _⟩) hH (fun r3 S2 H locs hw hH => ?_)
  refine lv_istore_n (lv' := [(1, .int r3), (0, .ref (ly 0))]) hx hb dX12_wantLove_10 rfl hl (by decide) rfl (fun ls hl => ?_)
  refine lv_iconst (v := 0) hx hb dX12_wantLove_11 (by decide +kernel) ?_
  refine lv_istore_n (lv' := [(2, .int (0 : Int32)), (1, .int r3), (0, .ref (ly 0))]) hx hb dX12_wantLove_12 rfl hl (by decide) rfl (fun ls hl => ?_)
  have L_13 : ∀ (K_13 : Int32 → St → Prop) (hk_13 : ∀ (v2_13 : Int32) (S_13 : St) (H : Heap) (locs : List Loc) (ls : Array Slot), K_13 v2_13 S_13 → Hp D (Er kA ly) ly n A s.heap S_13 H locs → lv_has ls 3 [(0, .ref (ly 0)), (1, .int r3), (2, .int v2_13)] → W p l e (headSpec wsX12_wantLove { frames := 4, cells := 0, slots := 0, locals := 86 }).room s m [.ref (ly 0)].toArray below meth c H locs 0 0 (MQ below (va_Qv Q (Gp D (Er kA ly) ly n A kA) A) [.ref (ly 0)].toArray s 0 0 A) (F0 m 37 ls [])) (fu_13 : Nat) (v2_13 : Int32) (S_13 : St) (H : Heap) (locs : List Loc) (ls : Array Slot), wl_X12_wantLove_13 K_13 fu_13 v2_13 S_13 → Hp D (Er kA ly) ly n A s.heap S_13 H locs → lv_has ls 3 [(0, .ref (ly 0)), (1, .int r3), (2, .int v2_13)] → W p l e (headSpec wsX12_wantLove { frames := 4, cells := 0, slots := 0, locals := 86 }).room s m [.ref (ly 0)].toArray below meth c H locs 0 0 (MQ below (va_Qv Q (Gp D (Er kA ly) ly n A kA) A) [.ref (ly 0)].toArray s 0 0 A) (F0 m 13 ls []) := by
    intro K_13 hk_13 fu_13
    induction fu_13 with
    | zero => intro v2_13 S_13 H locs ls hw hH hl; rw [wl_X12_wantLove_13] at hw; exact hw.elim
    | succ fu_13 ih_13 =>
      intro v2_13 S_13 H locs ls hw hH hl
      rw [wl_X12_wantLove_13] at hw
      refine lv_iload_n hx hb dX12_wantLove_13 rfl (lv_at hl 2 rfl) ?_
      refine lv_iconst (v := 4) hx hb dX12_wantLove_14 (by decide +kernel) ?_
      refine lv_icmp_ge (tgt := 37) hx hb dX12_wantLove_15 (by decide) (fun hc4 => ?_) (fun hc4 => ?_)
      · replace hw := hw.1 hc4
        exact hk_13 v2_13 S_13 _ _ ls hw hH (lv_sub hl [0, 1, 2] rfl)
      · replace hw := hw.2 hc4
        refine lv_aload_n hx hb dX12_wantLove_18 rfl (lv_at hl 0 rfl) ?_
        refine gf_r_18 hx hb hts hiX12 hown hK hn hH lk0 dX12_wantLove_19 ?_
        refine lv_iload_n hx hb dX12_wantLove_22 rfl (lv_at hl 2 rfl) ?_
        refine lv_aload_n hx hb dX12_wantLove_23 rfl (lv_at hl 0 rfl) ?_
        refine lv_iconst (v := 0) hx hb dX12_wantLove_24 (by decide +kernel) ?_
        refine lv_bipush (v := 9) hx hb dX12_wantLove_25 (by decide +kernel) ?_
        refine k_afti (va_runV (As := [.int (0 : Int32), .int (9 : Int32)]) (rest := [.int v2_13, .ref (ly 8)]) ⟨hx, hb, hml, hown, hts⟩ (c_X12_wantNumber l D kA ly n hn A (0 : Int32) (9 : Int32) S_13 _) (cwV 2 hts gX12_wantLove_X12_wantNumber rfl rfl rfl (by decide +kernel) ⟨(Nat.le_of_ble_eq_true rfl), (Nat.le_of_ble_eq_true rfl)⟩) ⟨k_blind, (k_recv hK hH (hn _ (by decide)) Er_0 rfl), k_pre hK hN hH hw⟩ rfl rfl hl.1 rfl (lv_room (Nat.le_of_ble_eq_true rfl)) dX12_wantLove_27 ⟨Nat.le_refl _, Nat.le_refl _⟩) hH (fun r6 S5 H locs hw hH => ?_)
        obtain ⟨hi_7, hw⟩ := hw
        refine k_ist hx hb hK hH (hn _ (by decide)) (fun _ => Er_8) hi_7 dX12_wantLove_30 (fun S8 H locs eS8 hH => ?_)
        replace hw := hw S8 eS8
        obtain ⟨t9, et9⟩ : ∃ y : Int32, y = v2_13 + 1 := ⟨_, rfl⟩
        replace hw := hw t9 et9
        refine lv_iinc (v := t9) (lv' := [(2, .int t9), (0, .ref (ly 0)), (1, .int r3)]) hx hb dX12_wantLove_31 hl (k := 2) rfl (by rw [et9]; rfl) (by decide) rfl (fun ls hl => ?_)
        refine lv_goto (tgt := 13) hx hb dX12_wantLove_34 (by decide) ?_
        exact ih_13 t9 S8 _ _ ls hw hH (lv_sub hl [1, 2, 0] rfl)
  obtain ⟨m_13, hw⟩ := hw
  refine L_13 _ (fun e2_10 S11 H locs ls hw hH hl => ?_) m_13 (0 : Int32) S2 _ _ ls hw hH (lv_sub hl [2, 1, 0] rfl)
  refine lv_aload_n hx hb dX12_wantLove_37 rfl (lv_at hl 0 rfl) ?_
  refine lv_bipush (v := 59) hx hb dX12_wantLove_38 (by decide +kernel) ?_
  refine k_aftv (va_runV (As := [.int (59 : Int32)]) (rest := []) ⟨hx, hb, hml, hown, hts⟩ (c_X12_wantMark l D kA ly n hn A (59 : Int32) S11 _) (cwV 1 hts gX12_wantLove_X12_wantMark rfl rfl rfl (by decide +kernel) ⟨(Nat.le_of_ble_eq_true rfl), (Nat.le_of_ble_eq_true rfl)⟩) ⟨k_blind, (k_recv hK hH (hn _ (by decide)) Er_0 rfl), k_pre hK hN hH hw⟩ rfl rfl hl.1 rfl (lv_room (Nat.le_of_ble_eq_true rfl)) dX12_wantLove_40 ⟨Nat.le_refl _, Nat.le_refl _⟩) hH (fun S12 H locs hw hH => ?_)
  refine lv_iconst (v := 0) hx hb dX12_wantLove_43 (by decide +kernel) ?_
  refine lv_istore_n (lv' := [(2, .int (0 : Int32)), (0, .ref (ly 0)), (1, .int r3)]) hx hb dX12_wantLove_44 rfl hl (by decide) rfl (fun ls hl => ?_)
  have L_45 : ∀ (K_45 : Int32 → St → Prop) (hk_45 : ∀ (v2_45 : Int32) (S_45 : St) (H : Heap) (locs : List Loc) (ls : Array Slot), K_45 v2_45 S_45 → Hp D (Er kA ly) ly n A s.heap S_45 H locs → lv_has ls 3 [(0, .ref (ly 0)), (1, .int r3), (2, .int v2_45)] → W p l e (headSpec wsX12_wantLove { frames := 4, cells := 0, slots := 0, locals := 86 }).room s m [.ref (ly 0)].toArray below meth c H locs 0 0 (MQ below (va_Qv Q (Gp D (Er kA ly) ly n A kA) A) [.ref (ly 0)].toArray s 0 0 A) (F0 m 79 ls [])) (fu_45 : Nat) (v2_45 : Int32) (S_45 : St) (H : Heap) (locs : List Loc) (ls : Array Slot), wl_X12_wantLove_45 r3 K_45 fu_45 v2_45 S_45 → Hp D (Er kA ly) ly n A s.heap S_45 H locs → lv_has ls 3 [(0, .ref (ly 0)), (1, .int r3), (2, .int v2_45)] → W p l e (headSpec wsX12_wantLove { frames := 4, cells := 0, slots := 0, locals := 86 }).room s m [.ref (ly 0)].toArray below meth c H locs 0 0 (MQ below (va_Qv Q (Gp D (Er kA ly) ly n A kA) A) [.ref (ly 0)].toArray s 0 0 A) (F0 m 45 ls []) := by
    intro K_45 hk_45 fu_45
    induction fu_45 with
    | zero => intro v2_45 S_45 H locs ls hw hH hl; rw [wl_X12_wantLove_45] at hw; exact hw.elim
    | succ fu_45 ih_45 =>
      intro v2_45 S_45 H locs ls hw hH hl
      rw [wl_X12_wantLove_45] at hw
      refine lv_iload_n hx hb dX12_wantLove_45 rfl (lv_at hl 2 rfl) ?_
      refine lv_iconst (v := 4) hx hb dX12_wantLove_46 (by decide +kernel) ?_
      refine lv_icmp_ge (tgt := 79) hx hb dX12_wantLove_47 (by decide) (fun hc13 => ?_) (fun hc13 => ?_)
      · replace hw := hw.1 hc13
        exact hk_45 v2_45 S_45 _ _ ls hw hH (lv_sub hl [0, 1, 2] rfl)
      · replace hw := hw.2 hc13
        refine lv_aload_n hx hb dX12_wantLove_50 rfl (lv_at hl 0 rfl) ?_
        refine gf_r_12 hx hb hts hiX12 hown hK hn hH lk1 dX12_wantLove_51 ?_
        refine lv_if_eq (tgt := 79) hx hb dX12_wantLove_54 (by decide) (fun hc14 => ?_) (fun hc14 => ?_)
        · replace hw := hw.1 hc14
          exact hk_45 v2_45 S_45 _ _ ls hw hH (lv_sub hl [0, 1, 2] rfl)
        · replace hw := hw.2 hc14
          refine lv_aload_n hx hb dX12_wantLove_57 rfl (lv_at hl 0 rfl) ?_
          refine gf_r_16 hx hb hts hiX12 hown hK hn hH lk2 dX12_wantLove_58 ?_
          refine lv_iconst (v := 4) hx hb dX12_wantLove_61 (by decide +kernel) ?_
          refine lv_iload_n hx hb dX12_wantLove_62 rfl (lv_at hl 1 rfl) ?_
          refine lv_imul hx hb dX12_wantLove_63 ?_
          refine lv_iload_n hx hb dX12_wantLove_64 rfl (lv_at hl 2 rfl) ?_
          refine lv_iadd hx hb dX12_wantLove_65 ?_
          refine lv_aload_n hx hb dX12_wantLove_66 rfl (lv_at hl 0 rfl) ?_
          refine gf_r_18 hx hb hts hiX12 hown hK hn hH lk0 dX12_wantLove_67 ?_
          refine lv_iload_n hx hb dX12_wantLove_70 rfl (lv_at hl 2 rfl) ?_
          obtain ⟨hi_15, hw⟩ := hw
          refine k_ild hx hb hK hH (hn _ (by decide)) Er_8 hi_15 dX12_wantLove_71 ?_
          obtain ⟨hi_16, hw⟩ := hw
          refine k_ist hx hb hK hH (hn _ (by decide)) (fun _ => Er_6) hi_16 dX12_wantLove_72 (fun S17 H locs eS17 hH => ?_)
          replace hw := hw S17 eS17
          obtain ⟨t18, et18⟩ : ∃ y : Int32, y = v2_45 + 1 := ⟨_, rfl⟩
          replace hw := hw t18 et18
          refine lv_iinc (v := t18) (lv' := [(2, .int t18), (0, .ref (ly 0)), (1, .int r3)]) hx hb dX12_wantLove_73 hl (k := 2) rfl (by rw [et18]; rfl) (by decide) rfl (fun ls hl => ?_)
          refine lv_goto (tgt := 45) hx hb dX12_wantLove_76 (by decide) ?_
          exact ih_45 t18 S17 _ _ ls hw hH (lv_sub hl [1, 2, 0] rfl)
  obtain ⟨m_45, hw⟩ := hw
  refine L_45 _ (fun e2_19 S20 H locs ls hw hH hl => ?_) m_45 (0 : Int32) S12 _ _ ls hw hH (lv_sub hl [1, 2, 0] rfl)
  exact k_vret hx hb hr hlocks hK hN hH hw dX12_wantLove_79
def wp_X12_wantClause  (S : St) (Q : St → Prop) : Prop := wp_X12_kindHere S (fun r2 S1 => ((r2 < 0 → wp_X12_isWord (439745 : Int64) S1 (fun r5 S4 => ((r5 = 0 → wp_X12_isWord (247730 : Int64) S4 (fun r8 S7 => ((r8 = 0 → wp_X12_isWord (10927033 : Int64) S7 (fun r11 S10 => ((r11 = 0 → (∀ S13 : St, S13 = sI S10 0 12 (0 : Int32) → Q S13)) ∧ (¬ r11 = 0 → wp_X12_advance S10 (fun S14 => wp_X12_wantNumber (0 : Int32) (50 : Int32) S14 (fun r16 S15 => (∀ S17 : St, S17 = sI S15 0 14 r16 → wp_X12_wantMark (59 : Int32) S17 (fun S18 => Q S18)))))))) ∧ (¬ r8 = 0 → wp_X12_wantLove S7 (fun S19 => Q S19))))) ∧ (¬ r5 = 0 → wp_X12_wantViews S4 (fun S20 => Q S20))))) ∧ (¬ r2 < 0 → wp_X12_kindHere S1 (fun r22 S21 => wp_X12_wantPane r22 S21 (fun S23 => Q S23)))))
set_option maxHeartbeats 4000000 in
set_option maxRecDepth 100000 in
theorem c_X12_wantClause (l : Launch) (D : va_G) (kA : Nat → ClassId) (ly : Nat → Nat) (n : List Nat) (hn : ∀ c, c < 20 → c ∈ n) (A : Nat → Prop)  : Cv l yX12_wantClause wsX12_wantClause 6 131 (Gp D (Er kA ly) ly n A kA) A [.ref (ly 0)] (wp_X12_wantClause) := by
  intro S Q
  refine Met.ofW (cc := cX12_wantClause) (maxL := 1) (ret := none) (by decide) rfl ?_
  intro p e s m args below meth c s₁ B hml hv
  obtain ⟨rfl, ⟨hP, hD, hK, hN⟩, hw⟩ := hv
  have hx := B.exec
  have hb := B.bytes
  have hr := B.returns
  have hts := atoms_spec (ws := wsX12_wantClause) B.pre
  have hown : s.vm.findClass RX12 = some m.cls := findClass_of_methodNamed B.named
  have hlocks := B.notSynchronized
  have hH : Hp D (Er kA ly) ly n A s.heap S s.heap [] := ⟨hP, hD, va_S.rf⟩
  have hiX12 : ∀ w ∈ u_ws RX12 TX12 39, w ∈ wsX12_wantClause := by decide +kernel
  have lk0 := hts (.constantLong RX12 169 (439745)) (by decide +kernel)
  have lk1 := hts (.constantLong RX12 174 (247730)) (by decide +kernel)
  have lk2 := hts (.constantLong RX12 179 (10927033)) (by decide +kernel)
  have lk3 := hts (.fieldLink RX12 133 "SlowPanesModel" "good" "Z") (by decide +kernel)
  have lk4 := hts (.fieldLink RX12 181 "SlowPanesModel" "freshToday" "I") (by decide +kernel)
  have hl := lv_entry ([.ref (ly 0)]) (n := 1) (Nat.le_of_ble_eq_true rfl)
  rw [lg_entry_eq]
  generalize (lg_sl ([.ref (ly 0)]) ++ List.replicate (1 - (lg_sl ([.ref (ly 0)])).length) Slot.unset).toArray = ls at hl ⊢
  have hl : lv_has ls 1 [(0, .ref (ly 0))] := hl
  rw [wp_X12_wantClause] at hw
  refine lv_aload_n hx hb dX12_wantClause_0 rfl (lv_at hl 0 rfl) ?_
  refine k_afti (va_runV (As := []) (rest := []) ⟨hx, hb, hml, hown, hts⟩ (c_X12_kindHere l D kA ly n hn A S _) (cwV 0 hts gX12_wantClause_X12_kindHere rfl rfl rfl (by decide +kernel) ⟨(Nat.le_of_ble_eq_true rfl), (Nat.le_of_ble_eq_true rfl)⟩) ⟨k_blind, (k_recv hK hH (hn _ (by decide)) Er_0 rfl), k_pre hK hN hH hw⟩ rfl rfl hl.1 rfl (lv_room (Nat.le_of_ble_eq_true rfl)) dX12_wantClause_1 ⟨Nat.le_refl _, Nat.le_refl _⟩) hH (fun r2 S1 H locs hw hH => ?_)
  refine lv_if_lt (tgt := 18) hx hb dX12_wantClause_4 (by decide) (fun hc3 => ?_) (fun hc3 => ?_)
  · replace hw := hw.1 hc3
    refine lv_aload_n hx hb dX12_wantClause_18 rfl (lv_at hl 0 rfl) ?_
    refine lv_ldc2 (v := 439745) hx hb hown lk0 dX12_wantClause_19 ?_
    refine k_afti (va_runV (As := [.long (439745 : Int64)]) (rest := []) ⟨hx, hb, hml, hown, hts⟩ (c_X12_isWord l D kA ly n hn A (439745 : Int64) S1 _) (cwV 1 hts gX12_wantClause_X12_isWord rfl rfl rfl (by decide +kernel) ⟨(Nat.le_of_ble_eq_true rfl), (Nat.le_of_ble_eq_true rfl)⟩) ⟨k_blind, (k_recv hK hH (hn _ (by decide)) Er_0 rfl), k_pre hK hN hH hw⟩ rfl rfl hl.1 rfl (lv_room (Nat.le_of_ble_eq_true rfl)) dX12_wantClause_22 ⟨Nat.le_refl _, Nat.le_refl _⟩) hH (fun r5 S4 H locs hw hH => ?_)
    refine lv_if_eq (tgt := 35) hx hb dX12_wantClause_25 (by decide) (fun hc6 => ?_) (fun hc6 => ?_)
    · replace hw := hw.1 hc6
      refine lv_aload_n hx hb dX12_wantClause_35 rfl (lv_at hl 0 rfl) ?_
      refine lv_ldc2 (v := 247730) hx hb hown lk1 dX12_wantClause_36 ?_
      refine k_afti (va_runV (As := [.long (247730 : Int64)]) (rest := []) ⟨hx, hb, hml, hown, hts⟩ (c_X12_isWord l D kA ly n hn A (247730 : Int64) S4 _) (cwV 1 hts gX12_wantClause_X12_isWord rfl rfl rfl (by decide +kernel) ⟨(Nat.le_of_ble_eq_true rfl), (Nat.le_of_ble_eq_true rfl)⟩) ⟨k_blind, (k_recv hK hH (hn _ (by decide)) Er_0 rfl), k_pre hK hN hH hw⟩ rfl rfl hl.1 rfl (lv_room (Nat.le_of_ble_eq_true rfl)) dX12_wantClause_39 ⟨Nat.le_refl _, Nat.le_refl _⟩) hH (fun r8 S7 H locs hw hH => ?_)
      refine lv_if_eq (tgt := 52) hx hb dX12_wantClause_42 (by decide) (fun hc9 => ?_) (fun hc9 => ?_)
      · replace hw := hw.1 hc9
        refine lv_aload_n hx hb dX12_wantClause_52 rfl (lv_at hl 0 rfl) ?_
        refine lv_ldc2 (v := 10927033) hx hb hown lk2 dX12_wantClause_53 ?_
        refine k_afti (va_runV (As := [.long (10927033 : Int64)]) (rest := []) ⟨hx, hb, hml, hown, hts⟩ (c_X12_isWord l D kA ly n hn A (10927033 : Int64) S7 _) (cwV 1 hts gX12_wantClause_X12_isWord rfl rfl rfl (by decide +kernel) ⟨(Nat.le_of_ble_eq_true rfl), (Nat.le_of_ble_eq_true rfl)⟩) ⟨k_blind, (k_recv hK hH (hn _ (by decide)) Er_0 rfl), k_pre hK hN hH hw⟩ rfl rfl hl.1 rfl (lv_room (Nat.le_of_ble_eq_true rfl)) dX12_wantClause_56 ⟨Nat.le_refl _, Nat.le_refl _⟩) hH (fun r11 S10 H locs hw hH => ?_)
        refine lv_if_eq (tgt := 86) hx hb dX12_wantClause_59 (by decide) (fun hc12 => ?_) (fun hc12 => ?_)
        · replace hw := hw.1 hc12
          refine lv_aload_n hx hb dX12_wantClause_86 rfl (lv_at hl 0 rfl) ?_
          refine lv_iconst (v := 0) hx hb dX12_wantClause_87 (by decide +kernel) ?_
          refine pf_r_12 hx hb hts hiX12 hown hK hn hH lk3 isB_0 dX12_wantClause_88 (fun S13 H locs eS13 hH => ?_)
          replace hw := hw S13 eS13
          exact k_vret hx hb hr hlocks hK hN hH hw dX12_wantClause_91
        · replace hw := hw.2 hc12
          refine lv_aload_n hx hb dX12_wantClause_62 rfl (lv_at hl 0 rfl) ?_
          refine k_aftv (va_runV (As := []) (rest := []) ⟨hx, hb, hml, hown, hts⟩ (c_X12_advance l D kA ly n hn A S10 _) (cwV 0 hts gX12_wantClause_X12_advance rfl rfl rfl (by decide +kernel) ⟨(Nat.le_of_ble_eq_true rfl), (Nat.le_of_ble_eq_true rfl)⟩) ⟨k_blind, (k_recv hK hH (hn _ (by decide)) Er_0 rfl), k_pre hK hN hH hw⟩ rfl rfl hl.1 rfl (lv_room (Nat.le_of_ble_eq_true rfl)) dX12_wantClause_63 ⟨Nat.le_refl _, Nat.le_refl _⟩) hH (fun S14 H locs hw hH => ?_)
          refine lv_aload_n hx hb dX12_wantClause_66 rfl (lv_at hl 0 rfl) ?_
          refine lv_aload_n hx hb dX12_wantClause_67 rfl (lv_at hl 0 rfl) ?_
          refine lv_iconst (v := 0) hx hb dX12_wantClause_68 (by decide +kernel) ?_
          refine lv_bipush (v := 50) hx hb dX12_wantClause_69 (by decide +kernel) ?_
          refine k_afti (va_runV (As := [.int (0 : Int32), .int (50 : Int32)]) (rest := [.ref (ly 0)]) ⟨hx, hb, hml, hown, hts⟩ (c_X12_wantNumber l D kA ly n hn A (0 : Int32) (50 : Int32) S14 _) (cwV 2 hts gX12_wantClause_X12_wantNumber rfl rfl rfl (by decide +kernel) ⟨(Nat.le_of_ble_eq_true rfl), (Nat.le_of_ble_eq_true rfl)⟩) ⟨k_blind, (k_recv hK hH (hn _ (by decide)) Er_0 rfl), k_pre hK hN hH hw⟩ rfl rfl hl.1 rfl (lv_room (Nat.le_of_ble_eq_true rfl)) dX12_wantClause_71 ⟨Nat.le_refl _, Nat.le_refl _⟩) hH (fun r16 S15 H locs hw hH => ?_)
          refine pf_r_14 hx hb hts hiX12 hown hK hn hH lk4 dX12_wantClause_74 (fun S17 H locs eS17 hH => ?_)
          replace hw := hw S17 eS17
          refine lv_aload_n hx hb dX12_wantClause_77 rfl (lv_at hl 0 rfl) ?_
          refine lv_bipush (v := 59) hx hb dX12_wantClause_78 (by decide +kernel) ?_
          refine k_aftv (va_runV (As := [.int (59 : Int32)]) (rest := []) ⟨hx, hb, hml, hown, hts⟩ (c_X12_wantMark l D kA ly n hn A (59 : Int32) S17 _) (cwV 1 hts gX12_wantClause_X12_wantMark rfl rfl rfl (by decide +kernel) ⟨(Nat.le_of_ble_eq_true rfl), (Nat.le_of_ble_eq_true rfl)⟩) ⟨k_blind, (k_recv hK hH (hn _ (by decide)) Er_0 rfl), k_pre hK hN hH hw⟩ rfl rfl hl.1 rfl (lv_room (Nat.le_of_ble_eq_true rfl)) dX12_wantClause_80 ⟨Nat.le_refl _, Nat.le_refl _⟩) hH (fun S18 H locs hw hH => ?_)
          refine lv_goto (tgt := 91) hx hb dX12_wantClause_83 (by decide) ?_
          exact k_vret hx hb hr hlocks hK hN hH hw dX12_wantClause_91
      · replace hw := hw.2 hc9
        refine lv_aload_n hx hb dX12_wantClause_45 rfl (lv_at hl 0 rfl) ?_
        refine k_aftv (va_runV (As := []) (rest := []) ⟨hx, hb, hml, hown, hts⟩ (c_X12_wantLove l D kA ly n hn A S7 _) (cwV 0 hts gX12_wantClause_X12_wantLove rfl rfl rfl (by decide +kernel) ⟨(Nat.le_of_ble_eq_true rfl), (Nat.le_of_ble_eq_true rfl)⟩) ⟨k_blind, (k_recv hK hH (hn _ (by decide)) Er_0 rfl), k_pre hK hN hH hw⟩ rfl rfl hl.1 rfl (lv_room (Nat.le_of_ble_eq_true rfl)) dX12_wantClause_46 ⟨Nat.le_refl _, Nat.le_refl _⟩) hH (fun S19 H locs hw hH => ?_)
        refine lv_goto (tgt := 91) hx hb dX12_wantClause_49 (by decide) ?_
        exact k_vret hx hb hr hlocks hK hN hH hw dX12_wantClause_91
    · replace hw := hw.2 hc6
      refine lv_aload_n hx hb dX12_wantClause_28 rfl (lv_at hl 0 rfl) ?_
      refine k_aftv (va_runV (As := []) (rest := []) ⟨hx, hb, hml, hown, hts⟩ (c_X12_wantViews l D kA ly n hn A S4 _) (cwV 0 hts gX12_wantClause_X12_wantViews rfl rfl rfl (by decide +kernel) ⟨(Nat.le_of_ble_eq_true rfl), (Nat.le_of_ble_eq_true rfl)⟩) ⟨k_blind, (k_recv hK hH (hn _ (by decide)) Er_0 rfl), k_pre hK hN hH hw⟩ rfl rfl hl.1 rfl (lv_room (Nat.le_of_ble_eq_true rfl)) dX12_wantClause_29 ⟨Nat.le_refl _, Nat.le_refl _⟩) hH (fun S20 H locs hw hH => ?_)
      refine lv_goto (tgt := 91) hx hb dX12_wantClause_32 (by decide) ?_
      exact k_vret hx hb hr hlocks hK hN hH hw dX12_wantClause_91
  · replace hw := hw.2 hc3
    refine lv_aload_n hx hb dX12_wantClause_7 rfl (lv_at hl 0 rfl) ?_
    refine lv_aload_n hx hb dX12_wantClause_8 rfl (lv_at hl 0 rfl) ?_
    refine k_afti (va_runV (As := []) (rest := [.ref (ly 0)]) ⟨hx, hb, hml, hown, hts⟩ (c_X12_kindHere l D kA ly n hn A S1 _) (cwV 0 hts gX12_wantClause_X12_kindHere rfl rfl rfl (by decide +kernel) ⟨(Nat.le_of_ble_eq_true rfl), (Nat.le_of_ble_eq_true rfl)⟩) ⟨k_blind, (k_recv hK hH (hn _ (by decide)) Er_0 rfl), k_pre hK hN hH hw⟩ rfl rfl hl.1 rfl (lv_room (Nat.le_of_ble_eq_true rfl)) dX12_wantClause_9 ⟨Nat.le_refl _, Nat.le_refl _⟩) hH (fun r22 S21 H locs hw hH => ?_)
    refine k_aftv (va_runV (As := [.int r22]) (rest := []) ⟨hx, hb, hml, hown, hts⟩ (c_X12_wantPane l D kA ly n hn A r22 S21 _) (cwV 1 hts gX12_wantClause_X12_wantPane rfl rfl rfl (by decide +kernel) ⟨(Nat.le_of_ble_eq_true rfl), (Nat.le_of_ble_eq_true rfl)⟩) ⟨k_blind, (k_recv hK hH (hn _ (by decide)) Er_0 rfl), k_pre hK hN hH hw⟩ rfl rfl hl.1 rfl (lv_room (Nat.le_of_ble_eq_true rfl)) dX12_wantClause_12 ⟨Nat.le_refl _, Nat.le_refl _⟩) hH (fun S23 H locs hw hH => ?_)
    refine lv_goto (tgt := 91) hx hb dX12_wantClause_15 (by decide) ?_
    exact k_vret hx hb hr hlocks hK hN hH hw dX12_wantClause_91
def wl_X12_makes_25 (a1 : Int32) (K_25 : Int32 → St → Prop) : Nat → Int32 → St → Prop
  | 0, _, _ => False
  | fu_25 + 1, v5_25, S_25 => (((16 : Int32) ≤ v5_25 → K_25 v5_25 S_25) ∧ (¬ (16 : Int32) ≤ v5_25 → wp_X12_becomes a1 ((3 : Int32) + v5_25) (-9 : Int32) S_25 (fun S5 => (∀ t6 : Int32, t6 = v5_25 + 1 → wl_X12_makes_25 a1 K_25 fu_25 t6 S5))))
def wp_X12_makes (a1 : Int32) (a2 : Int32) (a3 : Int32) (a4 : Int32) (S : St) (Q : St → Prop) : Prop := wp_X12_becomes a1 (0 : Int32) a2 S (fun S1 => wp_X12_becomes a1 (1 : Int32) a3 S1 (fun S2 => wp_X12_becomes a1 (2 : Int32) a4 S2 (fun S3 => (∃ m_25 : Nat, wl_X12_makes_25 a1 (fun e5_7 S8 => Q S8) m_25 (0 : Int32) S3))))
set_option maxHeartbeats 4000000 in
set_option maxRecDepth 100000 in
theorem c_X12_makes (l : Launch) (D : va_G) (kA : Nat → ClassId) (ly : Nat → Nat) (n : List Nat) (hn : ∀ c, c < 20 → c ∈ n) (A : Nat → Prop) (a1 : Int32) (a2 : Int32) (a3 : Int32) (a4 : Int32) : Cv l yX12_makes wsX12_makes 1 23 (Gp D (Er kA ly) ly n A kA) A [.ref (ly 0), .int a1, .int a2, .int a3, .int a4] (wp_X12_makes a1 a2 a3 a4) := by
  intro S Q
  refine Met.ofW (cc := cX12_makes) (maxL := 6) (ret := none) (by decide) rfl ?_
  intro p e s m args below meth c s₁ B hml hv
  obtain ⟨rfl, ⟨hP, hD, hK, hN⟩, hw⟩ := hv
  have hx := B.exec
  have hb := B.bytes
  have hr := B.returns
  have hts := atoms_spec (ws := wsX12_makes) B.pre
  have hown : s.vm.findClass RX12 = some m.cls := findClass_of_methodNamed B.named
  have hlocks := B.notSynchronized
  have hH : Hp D (Er kA ly) ly n A s.heap S s.heap [] := ⟨hP, hD, va_S.rf⟩
  have hl := lv_entry ([.ref (ly 0), .int a1, .int a2, .int a3, .int a4]) (n := 6) (Nat.le_of_ble_eq_true rfl)
  rw [lg_entry_eq]
  generalize (lg_sl ([.ref (ly 0), .int a1, .int a2, .int a3, .int a4]) ++ List.replicate (6 - (lg_sl ([.ref (ly 0), .int a1, .int a2, .int a3, .int a4])).length) Slot.unset).toArray = ls at hl ⊢
  have hl : lv_has ls 6 [(0, .ref (ly 0)), (1, .int a1), (2, .int a2), (3, .int a3), (4, .int a4)] := hl
  rw [wp_X12_makes] at hw
  refine lv_aload_n hx hb dX12_makes_0 rfl (lv_at hl 0 rfl) ?_
  refine lv_iload_n hx hb dX12_makes_1 rfl (lv_at hl 1 rfl) ?_
  refine lv_iconst (v := 0) hx hb dX12_makes_2 (by decide +kernel) ?_
  refine lv_iload_n hx hb dX12_makes_3 rfl (lv_at hl 2 rfl) ?_
  refine k_aftv (va_runV (As := [.int a1, .int (0 : Int32), .int a2]) (rest := []) ⟨hx, hb, hml, hown, hts⟩ (c_X12_becomes l D kA ly n hn A a1 (0 : Int32) a2 S _) (cwV 3 hts gX12_makes_X12_becomes rfl rfl rfl (by decide +kernel) ⟨(Nat.le_of_ble_eq_true rfl), (Nat.le_of_ble_eq_true rfl)⟩) ⟨k_blind, (k_recv hK hH (hn _ (by decide)) Er_0 rfl), k_pre hK hN hH hw⟩ rfl rfl hl.1 rfl (lv_room (Nat.le_of_ble_eq_true rfl)) dX12_makes_4 ⟨Nat.le_refl _, Nat.le_refl _⟩) hH (fun S1 H locs hw hH => ?_)
  refine lv_aload_n hx hb dX12_makes_7 rfl (lv_at hl 0 rfl) ?_
  refine lv_iload_n hx hb dX12_makes_8 rfl (lv_at hl 1 rfl) ?_
  refine lv_iconst (v := 1) hx hb dX12_makes_9 (by decide +kernel) ?_
  refine lv_iload_n hx hb dX12_makes_10 rfl (lv_at hl 3 rfl) ?_
  refine k_aftv (va_runV (As := [.int a1, .int (1 : Int32), .int a3]) (rest := []) ⟨hx, hb, hml, hown, hts⟩ (c_X12_becomes l D kA ly n hn A a1 (1 : Int32) a3 S1 _) (cwV 3 hts gX12_makes_X12_becomes rfl rfl rfl (by decide +kernel) ⟨(Nat.le_of_ble_eq_true rfl), (Nat.le_of_ble_eq_true rfl)⟩) ⟨k_blind, (k_recv hK hH (hn _ (by decide)) Er_0 rfl), k_pre hK hN hH hw⟩ rfl rfl hl.1 rfl (lv_room (Nat.le_of_ble_eq_true rfl)) dX12_makes_11 ⟨Nat.le_refl _, Nat.le_refl _⟩) hH (fun S2 H locs hw hH => ?_)
  refine lv_aload_n hx hb dX12_makes_14 rfl (lv_at hl 0 rfl) ?_
  refine lv_iload_n hx hb dX12_makes_15 rfl (lv_at hl 1 rfl) ?_
  refine lv_iconst (v := 2) hx hb dX12_makes_16 (by decide +kernel) ?_
  refine lv_iload hx hb dX12_makes_17 (lv_at hl 4 rfl) ?_
  refine k_aftv (va_runV (As := [.int a1, .int (2 : Int32), .int a4]) (rest := []) ⟨hx, hb, hml, hown, hts⟩ (c_X12_becomes l D kA ly n hn A a1 (2 : Int32) a4 S2 _) (cwV 3 hts gX12_makes_X12_becomes rfl rfl rfl (by decide +kernel) ⟨(Nat.le_of_ble_eq_true rfl), (Nat.le_of_ble_eq_true rfl)⟩) ⟨k_blind, (k_recv hK hH (hn _ (by decide)) Er_0 rfl), k_pre hK hN hH hw⟩ rfl rfl hl.1 rfl (lv_room (Nat.le_of_ble_eq_true rfl)) dX12_makes_19 ⟨Nat.le_refl _, Nat.le_refl _⟩) hH (fun S3 H locs hw hH => ?_)
  refine lv_iconst (v := 0) hx hb dX12_makes_22 (by decide +kernel) ?_
  refine lv_istore (lv' := [(5, .int (0 : Int32)), (0, .ref (ly 0)), (1, .int a1), (2, .int a2), (3, .int a3), (4, .int a4)]) hx hb dX12_makes_23 hl (by decide) rfl (fun ls hl => ?_)
  have L_25 : ∀ (K_25 : Int32 → St → Prop) (hk_25 : ∀ (v5_25 : Int32) (S_25 : St) (H : Heap) (locs : List Loc) (ls : Array Slot), K_25 v5_25 S_25 → Hp D (Er kA ly) ly n A s.heap S_25 H locs → lv_has ls 6 [(0, .ref (ly 0)), (1, .int a1), (2, .int a2), (3, .int a3), (4, .int a4), (5, .int v5_25)] → W p l e (headSpec wsX12_makes { frames := 1, cells := 0, slots := 0, locals := 23 }).room s m [.ref (ly 0), .int a1, .int a2, .int a3, .int a4].toArray below meth c H locs 0 0 (MQ below (va_Qv Q (Gp D (Er kA ly) ly n A kA) A) [.ref (ly 0), .int a1, .int a2, .int a3, .int a4].toArray s 0 0 A) (F0 m 49 ls [])) (fu_25 : Nat) (v5_25 : Int32) (S_25 : St) (H : Heap) (locs : List Loc) (ls : Array Slot), wl_X12_makes_25 a1 K_25 fu_25 v5_25 S_25 → Hp D (Er kA ly) ly n A s.heap S_25 H locs → lv_has ls 6 [(0, .ref (ly 0)), (1, .int a1), (2, .int a2), (3, .int a3), (4, .int a4), (5, .int v5_25)] → W p l e (headSpec wsX12_makes { frames := 1, cells := 0, slots := 0, locals := 23 }).room s m [.ref (ly 0), .int a1, .int a2, .int a3, .int a4].toArray below meth c H locs 0 0 (MQ below (va_Qv Q (Gp D (Er kA ly) ly n A kA) A) [.ref (ly 0), .int a1, .int a2, .int a3, .int a4].toArray s 0 0 A) (F0 m 25 ls []) := by
    intro K_25 hk_25 fu_25
    induction fu_25 with
    | zero => intro v5_25 S_25 H locs ls hw hH hl; rw [wl_X12_makes_25] at hw; exact hw.elim
    | succ fu_25 ih_25 =>
      intro v5_25 S_25 H locs ls hw hH hl
      rw [wl_X12_makes_25] at hw
      refine lv_iload hx hb dX12_makes_25 (lv_at hl 5 rfl) ?_
      refine lv_bipush (v := 16) hx hb dX12_makes_27 (by decide +kernel) ?_
      refine lv_icmp_ge (tgt := 49) hx hb dX12_makes_29 (by decide) (fun hc4 => ?_) (fun hc4 => ?_)
      · replace hw := hw.1 hc4
        exact hk_25 v5_25 S_25 _ _ ls hw hH (lv_sub hl [0, 1, 2, 3, 4, 5] rfl)
      · replace hw := hw.2 hc4
        refine lv_aload_n hx hb dX12_makes_32 rfl (lv_at hl 0 rfl) ?_
        refine lv_iload_n hx hb dX12_makes_33 rfl (lv_at hl 1 rfl) ?_
        refine lv_iconst (v := 3) hx hb dX12_makes_34 (by decide +kernel) ?_
        refine lv_iload hx hb dX12_makes_35 (lv_at hl 5 rfl) ?_
        refine lv_iadd hx hb dX12_makes_37 ?_
        refine lv_bipush (v := -9) hx hb dX12_makes_38 (by decide +kernel) ?_
        refine k_aftv (va_runV (As := [.int a1, .int ((3 : Int32) + v5_25), .int (-9 : Int32)]) (rest := []) ⟨hx, hb, hml, hown, hts⟩ (c_X12_becomes l D kA ly n hn A a1 ((3 : Int32) + v5_25) (-9 : Int32) S_25 _) (cwV 3 hts gX12_makes_X12_becomes rfl rfl rfl (by decide +kernel) ⟨(Nat.le_of_ble_eq_true rfl), (Nat.le_of_ble_eq_true rfl)⟩) ⟨k_blind, (k_recv hK hH (hn _ (by decide)) Er_0 rfl), k_pre hK hN hH hw⟩ rfl rfl hl.1 rfl (lv_room (Nat.le_of_ble_eq_true rfl)) dX12_makes_40 ⟨Nat.le_refl _, Nat.le_refl _⟩) hH (fun S5 H locs hw hH => ?_)
        obtain ⟨t6, et6⟩ : ∃ y : Int32, y = v5_25 + 1 := ⟨_, rfl⟩
        replace hw := hw t6 et6
        refine lv_iinc (v := t6) (lv' := [(5, .int t6), (0, .ref (ly 0)), (1, .int a1), (2, .int a2), (3, .int a3), (4, .int a4)]) hx hb dX12_makes_43 hl (k := 5) rfl (by rw [et6]; rfl) (by decide) rfl (fun ls hl => ?_)
        refine lv_goto (tgt := 25) hx hb dX12_makes_46 (by decide) ?_
        exact ih_25 t6 S5 _ _ ls hw hH (lv_sub hl [1, 2, 3, 4, 5, 0] rfl)
  obtain ⟨m_25, hw⟩ := hw
  refine L_25 _ (fun e5_7 S8 H locs ls hw hH hl => ?_) m_25 (0 : Int32) S3 _ _ ls hw hH (lv_sub hl [1, 2, 3, 4, 5, 0] rfl)
  exact k_vret hx hb hr hlocks hK hN hH hw dX12_makes_49
