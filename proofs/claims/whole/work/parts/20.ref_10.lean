def wj_X12_taken_29 (a1 : Int32) (a2 : Int32) (Q : Int32 → St → Prop)   (S_29 : St) : Prop := wp_X12_kindOn a1 S_29 (fun r7 S6 => ((0 ≤ r7 → ((r7 = (9 : Int32) → (vp_in a1 4 ∧ ((a2 = ((10 : Int32) + (gA S6 15 a1.toNatClampNeg)) → (vp_in a1 4 ∧ Q (gA S6 16 a1.toNatClampNeg) S6)) ∧ (¬ a2 = ((10 : Int32) + (gA S6 15 a1.toNatClampNeg)) → Q (-13 : Int32) S6)))) ∧ (¬ r7 = (9 : Int32) → (((10 : Int32) ≤ a2 → Q (-13 : Int32) S6) ∧ (¬ (10 : Int32) ≤ a2 → wp_X12_isUnder r7 a2 S6 (fun r12 S11 => ((r12 = 0 → Q (-13 : Int32) S11) ∧ (¬ r12 = 0 → (vp_in a1 4 ∧ Q (gA S11 15 a1.toNatClampNeg) S11))))))))) ∧ (¬ 0 ≤ r7 → Q (-11 : Int32) S6)))
def wp_X12_taken (a1 : Int32) (a2 : Int32) (S : St) (Q : Int32 → St → Prop) : Prop := wp_X12_isShelf a1 S (fun r2 S1 => ((r2 = 0 → Q (-1 : Int32) S1) ∧ (¬ r2 = 0 → wp_X12_in a2 (0 : Int32) (5 : Int32) S1 (fun r5 S4 => ((r5 = 0 → wp_X12_in a2 (10 : Int32) (13 : Int32) S4 (fun r20 S19 => ((r20 = 0 → Q (-1 : Int32) S19) ∧ (¬ r20 = 0 → wj_X12_taken_29 a1 a2 Q S19)))) ∧ (¬ r5 = 0 → wj_X12_taken_29 a1 a2 Q S4))))))
set_option maxHeartbeats 4000000 in
set_option maxRecDepth 100000 in
theorem c_X12_taken (l : Launch) (D : va_G) (kA : Nat → ClassId) (ly : Nat → Nat) (n : List Nat) (hn : ∀ c, c < 20 → c ∈ n) (A : Nat → Prop) (a1 : Int32) (a2 : Int32) : Ci l yX12_taken wsX12_taken 3 64 (Gp D (Er kA ly) ly n A kA) A [.ref (ly 0), .int a1, .int a2] (wp_X12_taken a1 a2) := by
  intro S Q
  refine Met.ofW (cc := cX12_taken) (maxL := 4) (ret := (some .int)) (by decide) rfl ?_
  intro p e s m args below meth c s₁ B hml hv
  obtain ⟨rfl, ⟨hP, hD, hK, hN⟩, hw⟩ := hv
  have hx := B.exec
  have hb := B.bytes
  have hr := B.returns
  have hts := atoms_spec (ws := wsX12_taken) B.pre
  have hown : s.vm.findClass RX12 = some m.cls := findClass_of_methodNamed B.named
  have hlocks := B.notSynchronized
  have hH : Hp D (Er kA ly) ly n A s.heap S s.heap [] := ⟨hP, hD, va_S.rf⟩
  have hiX12 : ∀ w ∈ u_ws RX12 TX12 39, w ∈ wsX12_taken := by decide +kernel
  have lk0 := hts (.fieldLink RX12 57 "SlowPanesModel" "heldNumber" "[I") (by decide +kernel)
  have lk1 := hts (.fieldLink RX12 60 "SlowPanesModel" "heldSize" "[I") (by decide +kernel)
  have hl := lv_entry ([.ref (ly 0), .int a1, .int a2]) (n := 4) (Nat.le_of_ble_eq_true rfl)
  rw [lg_entry_eq]
  generalize (lg_sl ([.ref (ly 0), .int a1, .int a2]) ++ List.replicate (4 - (lg_sl ([.ref (ly 0), .int a1, .int a2])).length) Slot.unset).toArray = ls at hl ⊢
  have hl : lv_has ls 4 [(0, .ref (ly 0)), (1, .int a1), (2, .int a2)] := hl
  rw [wp_X12_taken] at hw
  refine lv_iload_n hx hb dX12_taken_0 rfl (lv_at hl 1 rfl) ?_
  refine k_afti (va_runS (As := [.int a1]) (rest := []) ⟨hx, hb, hml, hown, hts⟩ (c_X12_isShelf l D kA ly n hn A a1 S _) (va_cwS 1 hts gX12_taken_X12_isShelf rfl rfl rfl (by decide +kernel) ⟨(Nat.le_of_ble_eq_true rfl), (Nat.le_of_ble_eq_true rfl)⟩) ⟨k_blind, k_pre hK hN hH hw⟩ rfl rfl hl.1 rfl (lv_room (Nat.le_of_ble_eq_true rfl)) dX12_taken_1 ⟨Nat.le_refl _, Nat.le_refl _⟩) hH (fun r2 S1 H locs hw hH => ?_)
  refine lv_if_eq (tgt := 27) hx hb dX12_taken_4 (by decide) (fun hc3 => ?_) (fun hc3 => ?_)
  · replace hw := hw.1 hc3
    refine lv_iconst (v := -1) hx hb dX12_taken_27 (by decide +kernel) ?_
    exact k_iret hx hb hr hlocks hK hN hH hw dX12_taken_28
  · replace hw := hw.2 hc3
    refine lv_iload_n hx hb dX12_taken_7 rfl (lv_at hl 2 rfl) ?_
    refine lv_iconst (v := 0) hx hb dX12_taken_8 (by decide +kernel) ?_
    refine lv_iconst (v := 5) hx hb dX12_taken_9 (by decide +kernel) ?_
    refine k_afti (va_runS (As := [.int a2, .int (0 : Int32), .int (5 : Int32)]) (rest := []) ⟨hx, hb, hml, hown, hts⟩ (c_X12_in l D kA ly n hn A a2 (0 : Int32) (5 : Int32) S1 _) (va_cwS 3 hts gX12_taken_X12_in rfl rfl rfl (by decide +kernel) ⟨(Nat.le_of_ble_eq_true rfl), (Nat.le_of_ble_eq_true rfl)⟩) ⟨k_blind, k_pre hK hN hH hw⟩ rfl rfl hl.1 rfl (lv_room (Nat.le_of_ble_eq_true rfl)) dX12_taken_10 ⟨Nat.le_refl _, Nat.le_refl _⟩) hH (fun r5 S4 H locs hw hH => ?_)
    have J_29 : ∀  (S_29 : St) (H : Heap) (locs : List Loc) (ls : Array Slot), wj_X12_taken_29 a1 a2 Q S_29 → Hp D (Er kA ly) ly n A s.heap S_29 H locs → lv_has ls 4 [(0, .ref (ly 0)), (1, .int a1), (2, .int a2)] → W p l e (headSpec wsX12_taken { frames := 3, cells := 0, slots := 0, locals := 64 }).room s m [.ref (ly 0), .int a1, .int a2].toArray below meth c H locs 0 0 (MQ below (va_Qi Q (Gp D (Er kA ly) ly n A kA) A) [.ref (ly 0), .int a1, .int a2].toArray s 0 0 A) (F0 m 29 ls []) := by
      intro S_29 H locs ls hw hH hl
      rw [wj_X12_taken_29] at hw
      refine lv_aload_n hx hb dX12_taken_29 rfl (lv_at hl 0 rfl) ?_
      refine lv_iload_n hx hb dX12_taken_30 rfl (lv_at hl 1 rfl) ?_
      refine k_afti (va_runV (As := [.int a1]) (rest := []) ⟨hx, hb, hml, hown, hts⟩ (c_X12_kindOn l D kA ly n hn A a1 S_29 _) (cwV 1 hts gX12_taken_X12_kindOn rfl rfl rfl (by decide +kernel) ⟨(Nat.le_of_ble_eq_true rfl), (Nat.le_of_ble_eq_true rfl)⟩) ⟨k_blind, (k_recv hK hH (hn _ (by decide)) Er_0 rfl), k_pre hK hN hH hw⟩ rfl rfl hl.1 rfl (lv_room (Nat.le_of_ble_eq_true rfl)) dX12_taken_31 ⟨Nat.le_refl _, Nat.le_refl _⟩) hH (fun r7 S6 H locs hw hH => ?_)
      refine lv_istore_n (lv' := [(3, .int r7), (0, .ref (ly 0)), (1, .int a1), (2, .int a2)]) hx hb dX12_taken_34 rfl hl (by decide) rfl (fun ls hl => ?_)
      refine lv_iload_n hx hb dX12_taken_35 rfl (lv_at hl 0 rfl) ?_
      refine lv_if_ge (tgt := 42) hx hb dX12_taken_36 (by decide) (fun hc8 => ?_) (fun hc8 => ?_)
      · replace hw := hw.1 hc8
        refine lv_iload_n hx hb dX12_taken_42 rfl (lv_at hl 0 rfl) ?_
        refine lv_bipush (v := 9) hx hb dX12_taken_43 (by decide +kernel) ?_
        refine lv_icmp_ne (tgt := 73) hx hb dX12_taken_45 (by decide) (fun hc9 => ?_) (fun hc9 => ?_)
        · replace hw := hw.2 hc9
          refine lv_iload_n hx hb dX12_taken_73 rfl (lv_at hl 3 rfl) ?_
          refine lv_bipush (v := 10) hx hb dX12_taken_74 (by decide +kernel) ?_
          refine lv_icmp_ge (tgt := 96) hx hb dX12_taken_76 (by decide) (fun hc10 => ?_) (fun hc10 => ?_)
          · replace hw := hw.1 hc10
            refine lv_bipush (v := -13) hx hb dX12_taken_96 (by decide +kernel) ?_
            exact k_iret hx hb hr hlocks hK hN hH hw dX12_taken_98
          · replace hw := hw.2 hc10
            refine lv_iload_n hx hb dX12_taken_79 rfl (lv_at hl 0 rfl) ?_
            refine lv_iload_n hx hb dX12_taken_80 rfl (lv_at hl 3 rfl) ?_
            refine k_afti (va_runS (As := [.int r7, .int a2]) (rest := []) ⟨hx, hb, hml, hown, hts⟩ (c_X12_isUnder l D kA ly n hn A r7 a2 S6 _) (va_cwS 2 hts gX12_taken_X12_isUnder rfl rfl rfl (by decide +kernel) ⟨(Nat.le_of_ble_eq_true rfl), (Nat.le_of_ble_eq_true rfl)⟩) ⟨k_blind, k_pre hK hN hH hw⟩ rfl rfl hl.1 rfl (lv_room (Nat.le_of_ble_eq_true rfl)) dX12_taken_81 ⟨Nat.le_refl _, Nat.le_refl _⟩) hH (fun r12 S11 H locs hw hH => ?_)
            refine lv_if_eq (tgt := 96) hx hb dX12_taken_84 (by decide) (fun hc13 => ?_) (fun hc13 => ?_)
            · replace hw := hw.1 hc13
              refine lv_bipush (v := -13) hx hb dX12_taken_96 (by decide +kernel) ?_
              exact k_iret hx hb hr hlocks hK hN hH hw dX12_taken_98
            · replace hw := hw.2 hc13
              refine lv_aload_n hx hb dX12_taken_87 rfl (lv_at hl 1 rfl) ?_
              refine gf_r_27 hx hb hts hiX12 hown hK hn hH lk0 dX12_taken_88 ?_
              refine lv_iload_n hx hb dX12_taken_91 rfl (lv_at hl 2 rfl) ?_
              obtain ⟨hi_14, hw⟩ := hw
              refine k_ild hx hb hK hH (hn _ (by decide)) Er_15 hi_14 dX12_taken_92 ?_
              refine lv_goto (tgt := 98) hx hb dX12_taken_93 (by decide) ?_
              exact k_iret hx hb hr hlocks hK hN hH hw dX12_taken_98
        · replace hw := hw.1 hc9
          refine lv_iload_n hx hb dX12_taken_48 rfl (lv_at hl 3 rfl) ?_
          refine lv_bipush (v := 10) hx hb dX12_taken_49 (by decide +kernel) ?_
          refine lv_aload_n hx hb dX12_taken_51 rfl (lv_at hl 1 rfl) ?_
          refine gf_r_27 hx hb hts hiX12 hown hK hn hH lk0 dX12_taken_52 ?_
          refine lv_iload_n hx hb dX12_taken_55 rfl (lv_at hl 2 rfl) ?_
          obtain ⟨hi_15, hw⟩ := hw
          refine k_ild hx hb hK hH (hn _ (by decide)) Er_15 hi_15 dX12_taken_56 ?_
          refine lv_iadd hx hb dX12_taken_57 ?_
          refine lv_icmp_ne (tgt := 70) hx hb dX12_taken_58 (by decide) (fun hc16 => ?_) (fun hc16 => ?_)
          · replace hw := hw.2 hc16
            refine lv_bipush (v := -13) hx hb dX12_taken_70 (by decide +kernel) ?_
            exact k_iret hx hb hr hlocks hK hN hH hw dX12_taken_72
          · replace hw := hw.1 hc16
            refine lv_aload_n hx hb dX12_taken_61 rfl (lv_at hl 1 rfl) ?_
            refine gf_r_28 hx hb hts hiX12 hown hK hn hH lk1 dX12_taken_62 ?_
            refine lv_iload_n hx hb dX12_taken_65 rfl (lv_at hl 2 rfl) ?_
            obtain ⟨hi_17, hw⟩ := hw
            refine k_ild hx hb hK hH (hn _ (by decide)) Er_16 hi_17 dX12_taken_66 ?_
            refine lv_goto (tgt := 72) hx hb dX12_taken_67 (by decide) ?_
            exact k_iret hx hb hr hlocks hK hN hH hw dX12_taken_72
      · replace hw := hw.2 hc8
        refine lv_bipush (v := -11) hx hb dX12_taken_39 (by decide +kernel) ?_
        exact k_iret hx hb hr hlocks hK hN hH hw dX12_taken_41
    refine lv_if_ne (tgt := 29) hx hb dX12_taken_13 (by decide) (fun hc18 => ?_) (fun hc18 => ?_)
    · replace hw := hw.2 hc18
      exact J_29  S4 _ _ ls hw hH (lv_sub hl [0, 1, 2] rfl)
    · replace hw := hw.1 hc18
      refine lv_iload_n hx hb dX12_taken_16 rfl (lv_at hl 2 rfl) ?_
      refine lv_bipush (v := 10) hx hb dX12_taken_17 (by decide +kernel) ?_
      refine lv_bipush (v := 13) hx hb dX12_taken_19 (by decide +kernel) ?_
      refine k_afti (va_runS (As := [.int a2, .int (10 : Int32), .int (13 : Int32)]) (rest := []) ⟨hx, hb, hml, hown, hts⟩ (c_X12_in l D kA ly n hn A a2 (10 : Int32) (13 : Int32) S4 _) (va_cwS 3 hts gX12_taken_X12_in rfl rfl rfl (by decide +kernel) ⟨(Nat.le_of_ble_eq_true rfl), (Nat.le_of_ble_eq_true rfl)⟩) ⟨k_blind, k_pre hK hN hH hw⟩ rfl rfl hl.1 rfl (lv_room (Nat.le_of_ble_eq_true rfl)) dX12_taken_21 ⟨Nat.le_refl _, Nat.le_refl _⟩) hH (fun r20 S19 H locs hw hH => ?_)
      refine lv_if_ne (tgt := 29) hx hb dX12_taken_24 (by decide) (fun hc21 => ?_) (fun hc21 => ?_)
      · replace hw := hw.2 hc21
        exact J_29  S19 _ _ ls hw hH (lv_sub hl [0, 1, 2] rfl)
      · replace hw := hw.1 hc21
        refine lv_iconst (v := -1) hx hb dX12_taken_27 (by decide +kernel) ?_
        exact k_iret hx hb hr hlocks hK hN hH hw dX12_taken_28
def wp_X12_ran (a1 : Int32) (S : St) (Q : St → Prop) : Prop := (((30 : Int32) ≤ (gI S 0 33) → Q S) ∧ (¬ (30 : Int32) ≤ (gI S 0 33) → (vp_in (gI S 0 33) 30 ∧ ∀ S3 : St, S3 = sA S 17 (gI S 0 33).toNatClampNeg a1 → (∀ S4 : St, S4 = sI S3 0 33 ((gI S3 0 33) + (1 : Int32)) → Q S4))))
set_option maxHeartbeats 4000000 in
set_option maxRecDepth 100000 in
theorem c_X12_ran (l : Launch) (D : va_G) (kA : Nat → ClassId) (ly : Nat → Nat) (n : List Nat) (hn : ∀ c, c < 20 → c ∈ n) (A : Nat → Prop) (a1 : Int32) : Cv l yX12_ran wsX12_ran 0 0 (Gp D (Er kA ly) ly n A kA) A [.ref (ly 0), .int a1] (wp_X12_ran a1) := by
  intro S Q
  refine Met.ofW (cc := cX12_ran) (maxL := 2) (ret := none) (by decide) rfl ?_
  intro p e s m args below meth c s₁ B hml hv
  obtain ⟨rfl, ⟨hP, hD, hK, hN⟩, hw⟩ := hv
  have hx := B.exec
  have hb := B.bytes
  have hr := B.returns
  have hts := atoms_spec (ws := wsX12_ran) B.pre
  have hown : s.vm.findClass RX12 = some m.cls := findClass_of_methodNamed B.named
  have hlocks := B.notSynchronized
  have hH : Hp D (Er kA ly) ly n A s.heap S s.heap [] := ⟨hP, hD, va_S.rf⟩
  have hiX12 : ∀ w ∈ u_ws RX12 TX12 39, w ∈ wsX12_ran := by decide +kernel
  have lk0 := hts (.fieldLink RX12 288 "SlowPanesModel" "bodies" "I") (by decide +kernel)
  have lk1 := hts (.fieldLink RX12 63 "SlowPanesModel" "traced" "[I") (by decide +kernel)
  have hl := lv_entry ([.ref (ly 0), .int a1]) (n := 2) (Nat.le_of_ble_eq_true rfl)
  rw [lg_entry_eq]
  generalize (lg_sl ([.ref (ly 0), .int a1]) ++ List.replicate (2 - (lg_sl ([.ref (ly 0), .int a1])).length) Slot.unset).toArray = ls at hl ⊢
  have hl : lv_has ls 2 [(0, .ref (ly 0)), (1, .int a1)] := hl
  rw [wp_X12_ran] at hw
  refine lv_aload_n hx hb dX12_ran_0 rfl (lv_at hl 0 rfl) ?_
  refine gf_r_33 hx hb hts hiX12 hown hK hn hH lk0 dX12_ran_1 ?_
  refine lv_bipush (v := 30) hx hb dX12_ran_4 (by decide +kernel) ?_
  refine lv_icmp_ge (tgt := 29) hx hb dX12_ran_6 (by decide) (fun hc1 => ?_) (fun hc1 => ?_)
  · replace hw := hw.1 hc1
    exact k_vret hx hb hr hlocks hK hN hH hw dX12_ran_29
  · replace hw := hw.2 hc1
    refine lv_aload_n hx hb dX12_ran_9 rfl (lv_at hl 0 rfl) ?_
    refine gf_r_32 hx hb hts hiX12 hown hK hn hH lk1 dX12_ran_10 ?_
    refine lv_aload_n hx hb dX12_ran_13 rfl (lv_at hl 0 rfl) ?_
    refine gf_r_33 hx hb hts hiX12 hown hK hn hH lk0 dX12_ran_14 ?_
    refine lv_iload_n hx hb dX12_ran_17 rfl (lv_at hl 1 rfl) ?_
    obtain ⟨hi_2, hw⟩ := hw
    refine k_ist hx hb hK hH (hn _ (by decide)) (fun _ => Er_17) hi_2 dX12_ran_18 (fun S3 H locs eS3 hH => ?_)
    replace hw := hw S3 eS3
    refine lv_aload_n hx hb dX12_ran_19 rfl (lv_at hl 0 rfl) ?_
    refine lv_dup hx hb dX12_ran_20 rfl ?_
    refine gf_r_33 hx hb hts hiX12 hown hK hn hH lk0 dX12_ran_21 ?_
    refine lv_iconst (v := 1) hx hb dX12_ran_24 (by decide +kernel) ?_
    refine lv_iadd hx hb dX12_ran_25 ?_
    refine pf_r_33 hx hb hts hiX12 hown hK hn hH lk0 dX12_ran_26 (fun S4 H locs eS4 hH => ?_)
    replace hw := hw S4 eS4
    exact k_vret hx hb hr hlocks hK hN hH hw dX12_ran_29
def wp_X12_plainShows (a1 : Int32) (S : St) (Q : Int32 → St → Prop) : Prop := wp_X12_ran (10 : Int32) S (fun S1 => Q (a1 + (gI S1 0 30)) S1)
set_option maxHeartbeats 4000000 in
set_option maxRecDepth 100000 in
theorem c_X12_plainShows (l : Launch) (D : va_G) (kA : Nat → ClassId) (ly : Nat → Nat) (n : List Nat) (hn : ∀ c, c < 20 → c ∈ n) (A : Nat → Prop) (a1 : Int32) : Ci l yX12_plainShows wsX12_plainShows 1 21 (Gp D (Er kA ly) ly n A kA) A [.ref (ly 0), .int a1] (wp_X12_plainShows a1) := by
  intro S Q
  refine Met.ofW (cc := cX12_plainShows) (maxL := 2) (ret := (some .int)) (by decide) rfl ?_
  intro p e s m args below meth c s₁ B hml hv
  obtain ⟨rfl, ⟨hP, hD, hK, hN⟩, hw⟩ := hv
  have hx := B.exec
  have hb := B.bytes
  have hr := B.returns
  have hts := atoms_spec (ws := wsX12_plainShows) B.pre
  have hown : s.vm.findClass RX12 = some m.cls := findClass_of_methodNamed B.named
  have hlocks := B.notSynchronized
  have hH : Hp D (Er kA ly) ly n A s.heap S s.heap [] := ⟨hP, hD, va_S.rf⟩
  have hiX12 : ∀ w ∈ u_ws RX12 TX12 39, w ∈ wsX12_plainShows := by decide +kernel
  have lk0 := hts (.fieldLink RX12 294 "SlowPanesModel" "number" "I") (by decide +kernel)
  have hl := lv_entry ([.ref (ly 0), .int a1]) (n := 2) (Nat.le_of_ble_eq_true rfl)
  rw [lg_entry_eq]
  generalize (lg_sl ([.ref (ly 0), .int a1]) ++ List.replicate (2 - (lg_sl ([.ref (ly 0), .int a1])).length) Slot.unset).toArray = ls at hl ⊢
  have hl : lv_has ls 2 [(0, .ref (ly 0)), (1, .int a1)] := hl
  rw [wp_X12_plainShows] at hw
  refine lv_aload_n hx hb dX12_plainShows_0 rfl (lv_at hl 0 rfl) ?_
  refine lv_bipush (v := 10) hx hb dX12_plainShows_1 (by decide +kernel) ?_
  refine k_aftv (va_runV (As := [.int (10 : Int32)]) (rest := []) ⟨hx, hb, hml, hown, hts⟩ (c_X12_ran l D kA ly n hn A (10 : Int32) S _) (cwV 1 hts gX12_plainShows_X12_ran rfl rfl rfl (by decide +kernel) ⟨(Nat.le_of_ble_eq_true rfl), (Nat.le_of_ble_eq_true rfl)⟩) ⟨k_blind, (k_recv hK hH (hn _ (by decide)) Er_0 rfl), k_pre hK hN hH hw⟩ rfl rfl hl.1 rfl (lv_room (Nat.le_of_ble_eq_true rfl)) dX12_plainShows_3 ⟨Nat.le_refl _, Nat.le_refl _⟩) hH (fun S1 H locs hw hH => ?_)
  refine lv_iload_n hx hb dX12_plainShows_6 rfl (lv_at hl 1 rfl) ?_
  refine lv_aload_n hx hb dX12_plainShows_7 rfl (lv_at hl 0 rfl) ?_
  refine gf_r_30 hx hb hts hiX12 hown hK hn hH lk0 dX12_plainShows_8 ?_
  refine lv_iadd hx hb dX12_plainShows_11 ?_
  exact k_iret hx hb hr hlocks hK hN hH hw dX12_plainShows_12
def wp_X12_darkShows (a1 : Int32) (S : St) (Q : Int32 → St → Prop) : Prop := wp_X12_ran (30 : Int32) S (fun S1 => wp_X12_plainShows a1 S1 (fun r3 S2 => Q (r3 * (3 : Int32)) S2))
set_option maxHeartbeats 4000000 in
set_option maxRecDepth 100000 in
theorem c_X12_darkShows (l : Launch) (D : va_G) (kA : Nat → ClassId) (ly : Nat → Nat) (n : List Nat) (hn : ∀ c, c < 20 → c ∈ n) (A : Nat → Prop) (a1 : Int32) : Ci l yX12_darkShows wsX12_darkShows 2 42 (Gp D (Er kA ly) ly n A kA) A [.ref (ly 0), .int a1] (wp_X12_darkShows a1) := by
  intro S Q
  refine Met.ofW (cc := cX12_darkShows) (maxL := 2) (ret := (some .int)) (by decide) rfl ?_
  intro p e s m args below meth c s₁ B hml hv
  obtain ⟨rfl, ⟨hP, hD, hK, hN⟩, hw⟩ := hv
  have hx := B.exec
  have hb := B.bytes
  have hr := B.returns
  have hts := atoms_spec (ws := wsX12_darkShows) B.pre
  have hown : s.vm.findClass RX12 = some m.cls := findClass_of_methodNamed B.named
  have hlocks := B.notSynchronized
  have hH : Hp D (Er kA ly) ly n A s.heap S s.heap [] := ⟨hP, hD, va_S.rf⟩
  have hl := lv_entry ([.ref (ly 0), .int a1]) (n := 2) (Nat.le_of_ble_eq_true rfl)
  rw [lg_entry_eq]
  generalize (lg_sl ([.ref (ly 0), .int a1]) ++ List.replicate (2 - (lg_sl ([.ref (ly 0), .int a1])).length) Slot.unset).toArray = ls at hl ⊢
  have hl : lv_has ls 2 [(0, .ref (ly 0)), (1, .int a1)] := hl
  rw [wp_X12_darkShows] at hw
  refine lv_aload_n hx hb dX12_darkShows_0 rfl (lv_at hl 0 rfl) ?_
  refine lv_bipush (v := 30) hx hb dX12_darkShows_1 (by decide +kernel) ?_
  refine k_aftv (va_runV (As := [.int (30 : Int32)]) (rest := []) ⟨hx, hb, hml, hown, hts⟩ (c_X12_ran l D kA ly n hn A (30 : Int32) S _) (cwV 1 hts gX12_darkShows_X12_ran rfl rfl rfl (by decide +kernel) ⟨(Nat.le_of_ble_eq_true rfl), (Nat.le_of_ble_eq_true rfl)⟩) ⟨k_blind, (k_recv hK hH (hn _ (by decide)) Er_0 rfl), k_pre hK hN hH hw⟩ rfl rfl hl.1 rfl (lv_room (Nat.le_of_ble_eq_true rfl)) dX12_darkShows_3 ⟨Nat.le_refl _, Nat.le_refl _⟩) hH (fun S1 H locs hw hH => ?_)
  refine lv_aload_n hx hb dX12_darkShows_6 rfl (lv_at hl 0 rfl) ?_
  refine lv_iload_n hx hb dX12_darkShows_7 rfl (lv_at hl 1 rfl) ?_
  refine k_afti (va_runV (As := [.int a1]) (rest := []) ⟨hx, hb, hml, hown, hts⟩ (c_X12_plainShows l D kA ly n hn A a1 S1 _) (cwV 1 hts gX12_darkShows_X12_plainShows rfl rfl rfl (by decide +kernel) ⟨(Nat.le_of_ble_eq_true rfl), (Nat.le_of_ble_eq_true rfl)⟩) ⟨k_blind, (k_recv hK hH (hn _ (by decide)) Er_0 rfl), k_pre hK hN hH hw⟩ rfl rfl hl.1 rfl (lv_room (Nat.le_of_ble_eq_true rfl)) dX12_darkShows_8 ⟨Nat.le_refl _, Nat.le_refl _⟩) hH (fun r3 S2 H locs hw hH => ?_)
  refine lv_iconst (v := 3) hx hb dX12_darkShows_11 (by decide +kernel) ?_
  refine lv_imul hx hb dX12_darkShows_12 ?_
  exact k_iret hx hb hr hlocks hK hN hH hw dX12_darkShows_13
def wp_X12_showsIt (a1 : Int32) (S : St) (Q : Int32 → St → Prop) : Prop := (((gI S 0 29) = 2 → wp_X12_ran (51 : Int32) S (fun S2 => wp_X12_plainShows a1 S2 (fun r4 S3 => Q (r4 - (gI S3 0 30)) S3))) ∧ (¬ (gI S 0 29) = 2 → (((gI S 0 29) = 3 → wp_X12_darkShows a1 S (fun r7 S6 => Q r7 S6)) ∧ (¬ (gI S 0 29) = 3 → (((gI S 0 29) = 4 → wp_X12_ran (40 : Int32) S (fun S9 => wp_X12_darkShows a1 S9 (fun r11 S10 => Q ((0 : Int32) - r11) S10))) ∧ (¬ (gI S 0 29) = 4 → wp_X12_plainShows a1 S (fun r13 S12 => Q r13 S12)))))))
set_option maxHeartbeats 4000000 in
set_option maxRecDepth 100000 in
theorem c_X12_showsIt (l : Launch) (D : va_G) (kA : Nat → ClassId) (ly : Nat → Nat) (n : List Nat) (hn : ∀ c, c < 20 → c ∈ n) (A : Nat → Prop) (a1 : Int32) : Ci l yX12_showsIt wsX12_showsIt 3 63 (Gp D (Er kA ly) ly n A kA) A [.ref (ly 0), .int a1] (wp_X12_showsIt a1) := by
  intro S Q
  refine Met.ofW (cc := cX12_showsIt) (maxL := 2) (ret := (some .int)) (by decide) rfl ?_
  intro p e s m args below meth c s₁ B hml hv
  obtain ⟨rfl, ⟨hP, hD, hK, hN⟩, hw⟩ := hv
  have hx := B.exec
  have hb := B.bytes
  have hr := B.returns
  have hts := atoms_spec (ws := wsX12_showsIt) B.pre
  have hown : s.vm.findClass RX12 = some m.cls := findClass_of_methodNamed B.named
  have hlocks := B.notSynchronized
  have hH : Hp D (Er kA ly) ly n A s.heap S s.heap [] := ⟨hP, hD, va_S.rf⟩
  have hiX12 : ∀ w ∈ u_ws RX12 TX12 39, w ∈ wsX12_showsIt := by decide +kernel
  have lk0 := hts (.fieldLink RX12 300 "SlowPanesModel" "kind" "I") (by decide +kernel)
  have lk1 := hts (.fieldLink RX12 294 "SlowPanesModel" "number" "I") (by decide +kernel)
  have hl := lv_entry ([.ref (ly 0), .int a1]) (n := 2) (Nat.le_of_ble_eq_true rfl)
  rw [lg_entry_eq]
  generalize (lg_sl ([.ref (ly 0), .int a1]) ++ List.replicate (2 - (lg_sl ([.ref (ly 0), .int a1])).length) Slot.unset).toArray = ls at hl ⊢
  have hl : lv_has ls 2 [(0, .ref (ly 0)), (1, .int a1)] := hl
  rw [wp_X12_showsIt] at hw
  refine lv_aload_n hx hb dX12_showsIt_0 rfl (lv_at hl 0 rfl) ?_
  refine gf_r_29 hx hb hts hiX12 hown hK hn hH lk0 dX12_showsIt_1 ?_
  by_cases hc1 : (gI S 0 29) = 2
  · replace hw := hw.1 hc1
    refine lv_tableIn (tgt := 52) hx hb dX12_showsIt_4 (by rw [hc1]; first | done | decide) (by rw [hc1]; first | done | decide) (by rw [hc1]; first | done | rfl) (by decide) ?_
    refine lv_aload_n hx hb dX12_showsIt_52 rfl (lv_at hl 0 rfl) ?_
    refine lv_bipush (v := 51) hx hb dX12_showsIt_53 (by decide +kernel) ?_
    refine k_aftv (va_runV (As := [.int (51 : Int32)]) (rest := []) ⟨hx, hb, hml, hown, hts⟩ (c_X12_ran l D kA ly n hn A (51 : Int32) S _) (cwV 1 hts gX12_showsIt_X12_ran rfl rfl rfl (by decide +kernel) ⟨(Nat.le_of_ble_eq_true rfl), (Nat.le_of_ble_eq_true rfl)⟩) ⟨k_blind, (k_recv hK hH (hn _ (by decide)) Er_0 rfl), k_pre hK hN hH hw⟩ rfl rfl hl.1 rfl (lv_room (Nat.le_of_ble_eq_true rfl)) dX12_showsIt_55 ⟨Nat.le_refl _, Nat.le_refl _⟩) hH (fun S2 H locs hw hH => ?_)
    refine lv_aload_n hx hb dX12_showsIt_58 rfl (lv_at hl 0 rfl) ?_
    refine lv_iload_n hx hb dX12_showsIt_59 rfl (lv_at hl 1 rfl) ?_
    refine k_afti (va_runV (As := [.int a1]) (rest := []) ⟨hx, hb, hml, hown, hts⟩ (c_X12_plainShows l D kA ly n hn A a1 S2 _) (cwV 1 hts gX12_showsIt_X12_plainShows rfl rfl rfl (by decide +kernel) ⟨(Nat.le_of_ble_eq_true rfl), (Nat.le_of_ble_eq_true rfl)⟩) ⟨k_blind, (k_recv hK hH (hn _ (by decide)) Er_0 rfl), k_pre hK hN hH hw⟩ rfl rfl hl.1 rfl (lv_room (Nat.le_of_ble_eq_true rfl)) dX12_showsIt_60 ⟨Nat.le_refl _, Nat.le_refl _⟩) hH (fun r4 S3 H locs hw hH => ?_)
    refine lv_aload_n hx hb dX12_showsIt_63 rfl (lv_at hl 0 rfl) ?_
    refine gf_r_30 hx hb hts hiX12 hown hK hn hH lk1 dX12_showsIt_64 ?_
    refine lv_isub hx hb dX12_showsIt_67 ?_
    exact k_iret hx hb hr hlocks hK hN hH hw dX12_showsIt_68
  · replace hw := hw.2 hc1
    by_cases hc5 : (gI S 0 29) = 3
    · replace hw := hw.1 hc5
      refine lv_tableIn (tgt := 32) hx hb dX12_showsIt_4 (by rw [hc5]; first | done | decide) (by rw [hc5]; first | done | decide) (by rw [hc5]; first | done | rfl) (by decide) ?_
      refine lv_aload_n hx hb dX12_showsIt_32 rfl (lv_at hl 0 rfl) ?_
      refine lv_iload_n hx hb dX12_showsIt_33 rfl (lv_at hl 1 rfl) ?_
      refine k_afti (va_runV (As := [.int a1]) (rest := []) ⟨hx, hb, hml, hown, hts⟩ (c_X12_darkShows l D kA ly n hn A a1 S _) (cwV 1 hts gX12_showsIt_X12_darkShows rfl rfl rfl (by decide +kernel) ⟨(Nat.le_of_ble_eq_true rfl), (Nat.le_of_ble_eq_true rfl)⟩) ⟨k_blind, (k_recv hK hH (hn _ (by decide)) Er_0 rfl), k_pre hK hN hH hw⟩ rfl rfl hl.1 rfl (lv_room (Nat.le_of_ble_eq_true rfl)) dX12_showsIt_34 ⟨Nat.le_refl _, Nat.le_refl _⟩) hH (fun r7 S6 H locs hw hH => ?_)
      exact k_iret hx hb hr hlocks hK hN hH hw dX12_showsIt_37
    · replace hw := hw.2 hc5
      by_cases hc8 : (gI S 0 29) = 4
      · replace hw := hw.1 hc8
        refine lv_tableIn (tgt := 38) hx hb dX12_showsIt_4 (by rw [hc8]; first | done | decide) (by rw [hc8]; first | done | decide) (by rw [hc8]; first | done | rfl) (by decide) ?_
        refine lv_aload_n hx hb dX12_showsIt_38 rfl (lv_at hl 0 rfl) ?_
        refine lv_bipush (v := 40) hx hb dX12_showsIt_39 (by decide +kernel) ?_
        refine k_aftv (va_runV (As := [.int (40 : Int32)]) (rest := []) ⟨hx, hb, hml, hown, hts⟩ (c_X12_ran l D kA ly n hn A (40 : Int32) S _) (cwV 1 hts gX12_showsIt_X12_ran rfl rfl rfl (by decide +kernel) ⟨(Nat.le_of_ble_eq_true rfl), (Nat.le_of_ble_eq_true rfl)⟩) ⟨k_blind, (k_recv hK hH (hn _ (by decide)) Er_0 rfl), k_pre hK hN hH hw⟩ rfl rfl hl.1 rfl (lv_room (Nat.le_of_ble_eq_true rfl)) dX12_showsIt_41 ⟨Nat.le_refl _, Nat.le_refl _⟩) hH (fun S9 H locs hw hH => ?_)
        refine lv_iconst (v := 0) hx hb dX12_showsIt_44 (by decide +kernel) ?_
        refine lv_aload_n hx hb dX12_showsIt_45 rfl (lv_at hl 0 rfl) ?_
        refine lv_iload_n hx hb dX12_showsIt_46 rfl (lv_at hl 1 rfl) ?_
        refine k_afti (va_runV (As := [.int a1]) (rest := [.int (0 : Int32)]) ⟨hx, hb, hml, hown, hts⟩ (c_X12_darkShows l D kA ly n hn A a1 S9 _) (cwV 1 hts gX12_showsIt_X12_darkShows rfl rfl rfl (by decide +kernel) ⟨(Nat.le_of_ble_eq_true rfl), (Nat.le_of_ble_eq_true rfl)⟩) ⟨k_blind, (k_recv hK hH (hn _ (by decide)) Er_0 rfl), k_pre hK hN hH hw⟩ rfl rfl hl.1 rfl (lv_room (Nat.le_of_ble_eq_true rfl)) dX12_showsIt_47 ⟨Nat.le_refl _, Nat.le_refl _⟩) hH (fun r11 S10 H locs hw hH => ?_)
        refine lv_isub hx hb dX12_showsIt_50 ?_
        exact k_iret hx hb hr hlocks hK hN hH hw dX12_showsIt_51
      · replace hw := hw.2 hc8
        refine lv_tableOut (tgt := 69) hx hb dX12_showsIt_4 (tb_out3_2 hc1 hc5 hc8) (by decide) ?_
        refine lv_aload_n hx hb dX12_showsIt_69 rfl (lv_at hl 0 rfl) ?_
        refine lv_iload_n hx hb dX12_showsIt_70 rfl (lv_at hl 1 rfl) ?_
        refine k_afti (va_runV (As := [.int a1]) (rest := []) ⟨hx, hb, hml, hown, hts⟩ (c_X12_plainShows l D kA ly n hn A a1 S _) (cwV 1 hts gX12_showsIt_X12_plainShows rfl rfl rfl (by decide +kernel) ⟨(Nat.le_of_ble_eq_true rfl), (Nat.le_of_ble_eq_true rfl)⟩) ⟨k_blind, (k_recv hK hH (hn _ (by decide)) Er_0 rfl), k_pre hK hN hH hw⟩ rfl rfl hl.1 rfl (lv_room (Nat.le_of_ble_eq_true rfl)) dX12_showsIt_71 ⟨Nat.le_refl _, Nat.le_refl _⟩) hH (fun r13 S12 H locs hw hH => ?_)
        exact k_iret hx hb hr hlocks hK hN hH hw dX12_showsIt_74
def wp_X12_plainMoves (a1 : Int32) (S : St) (Q : Int32 → St → Prop) : Prop := wp_X12_ran (11 : Int32) S (fun S1 => wp_X12_showsIt a1 S1 (fun r3 S2 => Q (r3 * (2 : Int32)) S2))
set_option maxHeartbeats 4000000 in
set_option maxRecDepth 100000 in
theorem c_X12_plainMoves (l : Launch) (D : va_G) (kA : Nat → ClassId) (ly : Nat → Nat) (n : List Nat) (hn : ∀ c, c < 20 → c ∈ n) (A : Nat → Prop) (a1 : Int32) : Ci l yX12_plainMoves wsX12_plainMoves 4 84 (Gp D (Er kA ly) ly n A kA) A [.ref (ly 0), .int a1] (wp_X12_plainMoves a1) := by
  intro S Q
  refine Met.ofW (cc := cX12_plainMoves) (maxL := 2) (ret := (some .int)) (by decide) rfl ?_
  intro p e s m args below meth c s₁ B hml hv
  obtain ⟨rfl, ⟨hP, hD, hK, hN⟩, hw⟩ := hv
  have hx := B.exec
  have hb := B.bytes
  have hr := B.returns
  have hts := atoms_spec (ws := wsX12_plainMoves) B.pre
  have hown : s.vm.findClass RX12 = some m.cls := findClass_of_methodNamed B.named
  have hlocks := B.notSynchronized
  have hH : Hp D (Er kA ly) ly n A s.heap S s.heap [] := ⟨hP, hD, va_S.rf⟩
  have hl := lv_entry ([.ref (ly 0), .int a1]) (n := 2) (Nat.le_of_ble_eq_true rfl)
  rw [lg_entry_eq]
  generalize (lg_sl ([.ref (ly 0), .int a1]) ++ List.replicate (2 - (lg_sl ([.ref (ly 0), .int a1])).length) Slot.unset).toArray = ls at hl ⊢
  have hl : lv_has ls 2 [(0, .ref (ly 0)), (1, .int a1)] := hl
  rw [wp_X12_plainMoves] at hw
  refine lv_aload_n hx hb dX12_plainMoves_0 rfl (lv_at hl 0 rfl) ?_
  refine lv_bipush (v := 11) hx hb dX12_plainMoves_1 (by decide +kernel) ?_
  refine k_aftv (va_runV (As := [.int (11 : Int32)]) (rest := []) ⟨hx, hb, hml, hown, hts⟩ (c_X12_ran l D kA ly n hn A (11 : Int32) S _) (cwV 1 hts gX12_plainMoves_X12_ran rfl rfl rfl (by decide +kernel) ⟨(Nat.le_of_ble_eq_true rfl), (Nat.le_of_ble_eq_true rfl)⟩) ⟨k_blind, (k_recv hK hH (hn _ (by decide)) Er_0 rfl), k_pre hK hN hH hw⟩ rfl rfl hl.1 rfl (lv_room (Nat.le_of_ble_eq_true rfl)) dX12_plainMoves_3 ⟨Nat.le_refl _, Nat.le_refl _⟩) hH (fun S1 H locs hw hH => ?_)
  refine lv_aload_n hx hb dX12_plainMoves_6 rfl (lv_at hl 0 rfl) ?_
  refine lv_iload_n hx hb dX12_plainMoves_7 rfl (lv_at hl 1 rfl) ?_
  refine k_afti (va_runV (As := [.int a1]) (rest := []) ⟨hx, hb, hml, hown, hts⟩ (c_X12_showsIt l D kA ly n hn A a1 S1 _) (cwV 1 hts gX12_plainMoves_X12_showsIt rfl rfl rfl (by decide +kernel) ⟨(Nat.le_of_ble_eq_true rfl), (Nat.le_of_ble_eq_true rfl)⟩) ⟨k_blind, (k_recv hK hH (hn _ (by decide)) Er_0 rfl), k_pre hK hN hH hw⟩ rfl rfl hl.1 rfl (lv_room (Nat.le_of_ble_eq_true rfl)) dX12_plainMoves_8 ⟨Nat.le_refl _, Nat.le_refl _⟩) hH (fun r3 S2 H locs hw hH => ?_)
  refine lv_iconst (v := 2) hx hb dX12_plainMoves_11 (by decide +kernel) ?_
  refine lv_imul hx hb dX12_plainMoves_12 ?_
  exact k_iret hx hb hr hlocks hK hN hH hw dX12_plainMoves_13
def wp_X12_movesIt (a1 : Int32) (S : St) (Q : Int32 → St → Prop) : Prop := (((gI S 0 29) = (1 : Int32) → wp_X12_ran (20 : Int32) S (fun S2 => wp_X12_plainMoves a1 S2 (fun r4 S3 => Q (r4 - (gI S3 0 31)) S3))) ∧ (¬ (gI S 0 29) = (1 : Int32) → (((gI S 0 29) = (2 : Int32) → wp_X12_ran (20 : Int32) S (fun S14 => wp_X12_plainMoves a1 S14 (fun r16 S15 => Q (r16 - (gI S15 0 31)) S15))) ∧ (¬ (gI S 0 29) = (2 : Int32) → (((gI S 0 29) = (4 : Int32) → wp_X12_ran (41 : Int32) S (fun S9 => wp_X12_plainMoves a1 S9 (fun r11 S10 => wp_X12_showsIt (gI S10 0 30) S10 (fun r13 S12 => Q (r11 + r13) S12)))) ∧ (¬ (gI S 0 29) = (4 : Int32) → wp_X12_plainMoves a1 S (fun r8 S7 => Q r8 S7)))))))
set_option maxHeartbeats 4000000 in
set_option maxRecDepth 100000 in
theorem c_X12_movesIt (l : Launch) (D : va_G) (kA : Nat → ClassId) (ly : Nat → Nat) (n : List Nat) (hn : ∀ c, c < 20 → c ∈ n) (A : Nat → Prop) (a1 : Int32) : Ci l yX12_movesIt wsX12_movesIt 5 105 (Gp D (Er kA ly) ly n A kA) A [.ref (ly 0), .int a1] (wp_X12_movesIt a1) := by
  intro S Q
  refine Met.ofW (cc := cX12_movesIt) (maxL := 3) (ret := (some .int)) (by decide) rfl ?_
  intro p e s m args below meth c s₁ B hml hv
  obtain ⟨rfl, ⟨hP, hD, hK, hN⟩, hw⟩ := hv
  have hx := B.exec
  have hb := B.bytes
  have hr := B.returns
  have hts := atoms_spec (ws := wsX12_movesIt) B.pre
  have hown : s.vm.findClass RX12 = some m.cls := findClass_of_methodNamed B.named
  have hlocks := B.notSynchronized
  have hH : Hp D (Er kA ly) ly n A s.heap S s.heap [] := ⟨hP, hD, va_S.rf⟩
  have hiX12 : ∀ w ∈ u_ws RX12 TX12 39, w ∈ wsX12_movesIt := by decide +kernel
  have lk0 := hts (.fieldLink RX12 300 "SlowPanesModel" "kind" "I") (by decide +kernel)
  have lk1 := hts (.fieldLink RX12 312 "SlowPanesModel" "own" "I") (by decide +kernel)
  have lk2 := hts (.fieldLink RX12 294 "SlowPanesModel" "number" "I") (by decide +kernel)
  have hl := lv_entry ([.ref (ly 0), .int a1]) (n := 3) (Nat.le_of_ble_eq_true rfl)
  rw [lg_entry_eq]
  generalize (lg_sl ([.ref (ly 0), .int a1]) ++ List.replicate (3 - (lg_sl ([.ref (ly 0), .int a1])).length) Slot.unset).toArray = ls at hl ⊢
  have hl : lv_has ls 3 [(0, .ref (ly 0)), (1, .int a1)] := hl
  rw [wp_X12_movesIt] at hw
  refine lv_aload_n hx hb dX12_movesIt_0 rfl (lv_at hl 0 rfl) ?_
  refine gf_r_29 hx hb hts hiX12 hown hK hn hH lk0 dX12_movesIt_1 ?_
  refine lv_iconst (v := 1) hx hb dX12_movesIt_4 (by decide +kernel) ?_
  refine lv_icmp_eq (tgt := 16) hx hb dX12_movesIt_5 (by decide) (fun hc1 => ?_) (fun hc1 => ?_)
  · replace hw := hw.1 hc1
    refine lv_aload_n hx hb dX12_movesIt_16 rfl (lv_at hl 0 rfl) ?_
    refine lv_bipush (v := 20) hx hb dX12_movesIt_17 (by decide +kernel) ?_
    refine k_aftv (va_runV (As := [.int (20 : Int32)]) (rest := []) ⟨hx, hb, hml, hown, hts⟩ (c_X12_ran l D kA ly n hn A (20 : Int32) S _) (cwV 1 hts gX12_movesIt_X12_ran rfl rfl rfl (by decide +kernel) ⟨(Nat.le_of_ble_eq_true rfl), (Nat.le_of_ble_eq_true rfl)⟩) ⟨k_blind, (k_recv hK hH (hn _ (by decide)) Er_0 rfl), k_pre hK hN hH hw⟩ rfl rfl hl.1 rfl (lv_room (Nat.le_of_ble_eq_true rfl)) dX12_movesIt_19 ⟨Nat.le_refl _, Nat.le_refl _⟩) hH (fun S2 H locs hw hH => ?_)
    refine lv_aload_n hx hb dX12_movesIt_22 rfl (lv_at hl 0 rfl) ?_
    refine lv_iload_n hx hb dX12_movesIt_23 rfl (lv_at hl 1 rfl) ?_
    refine k_afti (va_runV (As := [.int a1]) (rest := []) ⟨hx, hb, hml, hown, hts⟩ (c_X12_plainMoves l D kA ly n hn A a1 S2 _) (cwV 1 hts gX12_movesIt_X12_plainMoves rfl rfl rfl (by decide +kernel) ⟨(Nat.le_of_ble_eq_true rfl), (Nat.le_of_ble_eq_true rfl)⟩) ⟨k_blind, (k_recv hK hH (hn _ (by decide)) Er_0 rfl), k_pre hK hN hH hw⟩ rfl rfl hl.1 rfl (lv_room (Nat.le_of_ble_eq_true rfl)) dX12_movesIt_24 ⟨Nat.le_refl _, Nat.le_refl _⟩) hH (fun r4 S3 H locs hw hH => ?_)
    refine lv_aload_n hx hb dX12_movesIt_27 rfl (lv_at hl 0 rfl) ?_
    refine gf_r_31 hx hb hts hiX12 hown hK hn hH lk1 dX12_movesIt_28 ?_
    refine lv_isub hx hb dX12_movesIt_31 ?_
    exact k_iret hx hb hr hlocks hK hN hH hw dX12_movesIt_32
  · replace hw := hw.2 hc1
    refine lv_aload_n hx hb dX12_movesIt_8 rfl (lv_at hl 0 rfl) ?_
    refine gf_r_29 hx hb hts hiX12 hown hK hn hH lk0 dX12_movesIt_9 ?_
    refine lv_iconst (v := 2) hx hb dX12_movesIt_12 (by decide +kernel) ?_
    refine lv_icmp_ne (tgt := 33) hx hb dX12_movesIt_13 (by decide) (fun hc5 => ?_) (fun hc5 => ?_)
    · replace hw := hw.2 hc5
      refine lv_aload_n hx hb dX12_movesIt_33 rfl (lv_at hl 0 rfl) ?_
      refine gf_r_29 hx hb hts hiX12 hown hK hn hH lk0 dX12_movesIt_34 ?_
      refine lv_iconst (v := 4) hx hb dX12_movesIt_37 (by decide +kernel) ?_
      refine lv_icmp_ne (tgt := 64) hx hb dX12_movesIt_38 (by decide) (fun hc6 => ?_) (fun hc6 => ?_)
      · replace hw := hw.2 hc6
        refine lv_aload_n hx hb dX12_movesIt_64 rfl (lv_at hl 0 rfl) ?_
        refine lv_iload_n hx hb dX12_movesIt_65 rfl (lv_at hl 1 rfl) ?_
        refine k_afti (va_runV (As := [.int a1]) (rest := []) ⟨hx, hb, hml, hown, hts⟩ (c_X12_plainMoves l D kA ly n hn A a1 S _) (cwV 1 hts gX12_movesIt_X12_plainMoves rfl rfl rfl (by decide +kernel) ⟨(Nat.le_of_ble_eq_true rfl), (Nat.le_of_ble_eq_true rfl)⟩) ⟨k_blind, (k_recv hK hH (hn _ (by decide)) Er_0 rfl), k_pre hK hN hH hw⟩ rfl rfl hl.1 rfl (lv_room (Nat.le_of_ble_eq_true rfl)) dX12_movesIt_66 ⟨Nat.le_refl _, Nat.le_refl _⟩) hH (fun r8 S7 H locs hw hH => ?_)
        exact k_iret hx hb hr hlocks hK hN hH hw dX12_movesIt_69
      · replace hw := hw.1 hc6
        refine lv_aload_n hx hb dX12_movesIt_41 rfl (lv_at hl 0 rfl) ?_
        refine lv_bipush (v := 41) hx hb dX12_movesIt_42 (by decide +kernel) ?_
        refine k_aftv (va_runV (As := [.int (41 : Int32)]) (rest := []) ⟨hx, hb, hml, hown, hts⟩ (c_X12_ran l D kA ly n hn A (41 : Int32) S _) (cwV 1 hts gX12_movesIt_X12_ran rfl rfl rfl (by decide +kernel) ⟨(Nat.le_of_ble_eq_true rfl), (Nat.le_of_ble_eq_true rfl)⟩) ⟨k_blind, (k_recv hK hH (hn _ (by decide)) Er_0 rfl), k_pre hK hN hH hw⟩ rfl rfl hl.1 rfl (lv_room (Nat.le_of_ble_eq_true rfl)) dX12_movesIt_44 ⟨Nat.le_refl _, Nat.le_refl _⟩) hH (fun S9 H locs hw hH => ?_)
        refine lv_aload_n hx hb dX12_movesIt_47 rfl (lv_at hl 0 rfl) ?_
        refine lv_iload_n hx hb dX12_movesIt_48 rfl (lv_at hl 1 rfl) ?_
        refine k_afti (va_runV (As := [.int a1]) (rest := []) ⟨hx, hb, hml, hown, hts⟩ (c_X12_plainMoves l D kA ly n hn A a1 S9 _) (cwV 1 hts gX12_movesIt_X12_plainMoves rfl rfl rfl (by decide +kernel) ⟨(Nat.le_of_ble_eq_true rfl), (Nat.le_of_ble_eq_true rfl)⟩) ⟨k_blind, (k_recv hK hH (hn _ (by decide)) Er_0 rfl), k_pre hK hN hH hw⟩ rfl rfl hl.1 rfl (lv_room (Nat.le_of_ble_eq_true rfl)) dX12_movesIt_49 ⟨Nat.le_refl _, Nat.le_refl _⟩) hH (fun r11 S10 H locs hw hH => ?_)
        refine lv_istore_n (lv' := [(2, .int r11), (0, .ref (ly 0)), (1, .int a1)]) hx hb dX12_movesIt_52 rfl hl (by decide) rfl (fun ls hl => ?_)
        refine lv_iload_n hx hb dX12_movesIt_53 rfl (lv_at hl 0 rfl) ?_
        refine lv_aload_n hx hb dX12_movesIt_54 rfl (lv_at hl 1 rfl) ?_
        refine lv_aload_n hx hb dX12_movesIt_55 rfl (lv_at hl 1 rfl) ?_
        refine gf_r_30 hx hb hts hiX12 hown hK hn hH lk2 dX12_movesIt_56 ?_
        refine k_afti (va_runV (As := [.int (gI S10 0 30)]) (rest := [.int r11]) ⟨hx, hb, hml, hown, hts⟩ (c_X12_showsIt l D kA ly n hn A (gI S10 0 30) S10 _) (cwV 1 hts gX12_movesIt_X12_showsIt rfl rfl rfl (by decide +kernel) ⟨(Nat.le_of_ble_eq_true rfl), (Nat.le_of_ble_eq_true rfl)⟩) ⟨k_blind, (k_recv hK hH (hn _ (by decide)) Er_0 rfl), k_pre hK hN hH hw⟩ rfl rfl hl.1 rfl (lv_room (Nat.le_of_ble_eq_true rfl)) dX12_movesIt_59 ⟨Nat.le_refl _, Nat.le_refl _⟩) hH (fun r13 S12 H locs hw hH => ?_)
        refine lv_iadd hx hb dX12_movesIt_62 ?_
        exact k_iret hx hb hr hlocks hK hN hH hw dX12_movesIt_63
    · replace hw := hw.1 hc5
      refine lv_aload_n hx hb dX12_movesIt_16 rfl (lv_at hl 0 rfl) ?_
      refine lv_bipush (v := 20) hx hb dX12_movesIt_17 (by decide +kernel) ?_
      refine k_aftv (va_runV (As := [.int (20 : Int32)]) (rest := []) ⟨hx, hb, hml, hown, hts⟩ (c_X12_ran l D kA ly n hn A (20 : Int32) S _) (cwV 1 hts gX12_movesIt_X12_ran rfl rfl rfl (by decide +kernel) ⟨(Nat.le_of_ble_eq_true rfl), (Nat.le_of_ble_eq_true rfl)⟩) ⟨k_blind, (k_recv hK hH (hn _ (by decide)) Er_0 rfl), k_pre hK hN hH hw⟩ rfl rfl hl.1 rfl (lv_room (Nat.le_of_ble_eq_true rfl)) dX12_movesIt_19 ⟨Nat.le_refl _, Nat.le_refl _⟩) hH (fun S14 H locs hw hH => ?_)
      refine lv_aload_n hx hb dX12_movesIt_22 rfl (lv_at hl 0 rfl) ?_
      refine lv_iload_n hx hb dX12_movesIt_23 rfl (lv_at hl 1 rfl) ?_
      refine k_afti (va_runV (As := [.int a1]) (rest := []) ⟨hx, hb, hml, hown, hts⟩ (c_X12_plainMoves l D kA ly n hn A a1 S14 _) (cwV 1 hts gX12_movesIt_X12_plainMoves rfl rfl rfl (by decide +kernel) ⟨(Nat.le_of_ble_eq_true rfl), (Nat.le_of_ble_eq_true rfl)⟩) ⟨k_blind, (k_recv hK hH (hn _ (by decide)) Er_0 rfl), k_pre hK hN hH hw⟩ rfl rfl hl.1 rfl (lv_room (Nat.le_of_ble_eq_true rfl)) dX12_movesIt_24 ⟨Nat.le_refl _, Nat.le_refl _⟩) hH (fun r16 S15 H locs hw hH => ?_)
      refine lv_aload_n hx hb dX12_movesIt_27 rfl (lv_at hl 0 rfl) ?_
      refine gf_r_31 hx hb hts hiX12 hown hK hn hH lk1 dX12_movesIt_28 ?_
      refine lv_isub hx hb dX12_movesIt_31 ?_
      exact k_iret hx hb hr hlocks hK hN hH hw dX12_movesIt_32
def wp_X12_plainShares (a1 : Int32) (S : St) (Q : Int32 → St → Prop) : Prop := wp_X12_ran (12 : Int32) S (fun S1 => (((gI S1 0 31) = (gI S1 0 30) → (∀ S4 : St, S4 = sI S1 0 34 (1 : Int32) → Q (0 : Int32) S4)) ∧ (¬ (gI S1 0 31) = (gI S1 0 30) → (¬ ((gI S1 0 31) - (gI S1 0 30)) = 0 ∧ Q (a1 / ((gI S1 0 31) - (gI S1 0 30))) S1))))
set_option maxHeartbeats 4000000 in
set_option maxRecDepth 100000 in
theorem c_X12_plainShares (l : Launch) (D : va_G) (kA : Nat → ClassId) (ly : Nat → Nat) (n : List Nat) (hn : ∀ c, c < 20 → c ∈ n) (A : Nat → Prop) (a1 : Int32) : Ci l yX12_plainShares wsX12_plainShares 1 21 (Gp D (Er kA ly) ly n A kA) A [.ref (ly 0), .int a1] (wp_X12_plainShares a1) := by
  intro S Q
  refine Met.ofW (cc := cX12_plainShares) (maxL := 2) (ret := (some .int)) (by decide) rfl ?_
  intro p e s m args below meth c s₁ B hml hv
  obtain ⟨rfl, ⟨hP, hD, hK, hN⟩, hw⟩ := hv
  have hx := B.exec
  have hb := B.bytes
  have hr := B.returns
  have hts := atoms_spec (ws := wsX12_plainShares) B.pre
  have hown : s.vm.findClass RX12 = some m.cls := findClass_of_methodNamed B.named
  have hlocks := B.notSynchronized
  have hH : Hp D (Er kA ly) ly n A s.heap S s.heap [] := ⟨hP, hD, va_S.rf⟩
  have hiX12 : ∀ w ∈ u_ws RX12 TX12 39, w ∈ wsX12_plainShares := by decide +kernel
  have lk0 := hts (.fieldLink RX12 312 "SlowPanesModel" "own" "I") (by decide +kernel)
  have lk1 := hts (.fieldLink RX12 294 "SlowPanesModel" "number" "I") (by decide +kernel)
  have lk2 := hts (.fieldLink RX12 315 "SlowPanesModel" "isParted" "Z") (by decide +kernel)
  have hl := lv_entry ([.ref (ly 0), .int a1]) (n := 2) (Nat.le_of_ble_eq_true rfl)
  rw [lg_entry_eq]
  generalize (lg_sl ([.ref (ly 0), .int a1]) ++ List.replicate (2 - (lg_sl ([.ref (ly 0), .int a1])).length) Slot.unset).toArray = ls at hl ⊢
  have hl : lv_has ls 2 [(0, .ref (ly 0)), (1, .int a1)] := hl
  rw [wp_X12_plainShares] at hw
  refine lv_aload_n hx hb dX12_plainShares_0 rfl (lv_at hl 0 rfl) ?_
  refine lv_bipush (v := 12) hx hb dX12_plainShares_1 (by decide +kernel) ?_
  refine k_aftv (va_runV (As := [.int (12 : Int32)]) (rest := []) ⟨hx, hb, hml, hown, hts⟩ (c_X12_ran l D kA ly n hn A (12 : Int32) S _) (cwV 1 hts gX12_plainShares_X12_ran rfl rfl rfl (by decide +kernel) ⟨(Nat.le_of_ble_eq_true rfl), (Nat.le_of_ble_eq_true rfl)⟩) ⟨k_blind, (k_recv hK hH (hn _ (by decide)) Er_0 rfl), k_pre hK hN hH hw⟩ rfl rfl hl.1 rfl (lv_room (Nat.le_of_ble_eq_true rfl)) dX12_plainShares_3 ⟨Nat.le_refl _, Nat.le_refl _⟩) hH (fun S1 H locs hw hH => ?_)
  refine lv_aload_n hx hb dX12_plainShares_6 rfl (lv_at hl 0 rfl) ?_
  refine gf_r_31 hx hb hts hiX12 hown hK hn hH lk0 dX12_plainShares_7 ?_
  refine lv_aload_n hx hb dX12_plainShares_10 rfl (lv_at hl 0 rfl) ?_
  refine gf_r_30 hx hb hts hiX12 hown hK hn hH lk1 dX12_plainShares_11 ?_
  refine lv_icmp_ne (tgt := 24) hx hb dX12_plainShares_14 (by decide) (fun hc2 => ?_) (fun hc2 => ?_)
  · replace hw := hw.2 hc2
    refine lv_iload_n hx hb dX12_plainShares_24 rfl (lv_at hl 1 rfl) ?_
    refine lv_aload_n hx hb dX12_plainShares_25 rfl (lv_at hl 0 rfl) ?_
    refine gf_r_31 hx hb hts hiX12 hown hK hn hH lk0 dX12_plainShares_26 ?_
    refine lv_aload_n hx hb dX12_plainShares_29 rfl (lv_at hl 0 rfl) ?_
    refine gf_r_30 hx hb hts hiX12 hown hK hn hH lk1 dX12_plainShares_30 ?_
    refine lv_isub hx hb dX12_plainShares_33 ?_
    obtain ⟨hz3, hw⟩ := hw
    refine lv_idiv hx hb dX12_plainShares_34 hz3 ?_
    exact k_iret hx hb hr hlocks hK hN hH hw dX12_plainShares_35
  · replace hw := hw.1 hc2
    refine lv_aload_n hx hb dX12_plainShares_17 rfl (lv_at hl 0 rfl) ?_
    refine lv_iconst (v := 1) hx hb dX12_plainShares_18 (by decide +kernel) ?_
    refine pf_r_34 hx hb hts hiX12 hown hK hn hH lk2 isB_1 dX12_plainShares_19 (fun S4 H locs eS4 hH => ?_)
    replace hw := hw S4 eS4
    refine lv_iconst (v := 0) hx hb dX12_plainShares_22 (by decide +kernel) ?_
    exact k_iret hx hb hr hlocks hK hN hH hw dX12_plainShares_23
def wp_X12_sharesIt (a1 : Int32) (S : St) (Q : Int32 → St → Prop) : Prop := (((gI S 0 29) = (2 : Int32) → wp_X12_ran (50 : Int32) S (fun S11 => wp_X12_plainShares (a1 + (2 : Int32)) S11 (fun r13 S12 => Q (r13 ^^^ (1 : Int32)) S12))) ∧ (¬ (gI S 0 29) = (2 : Int32) → (((gI S 0 29) = (5 : Int32) → wp_X12_ran (61 : Int32) S (fun S5 => wp_X12_plainShares a1 S5 (fun r7 S6 => (((gI S6 0 34) = 0 → wp_X12_showsIt (gI S6 0 31) S6 (fun r10 S9 => Q (r7 + r10) S9)) ∧ (¬ (gI S6 0 34) = 0 → Q (0 : Int32) S6))))) ∧ (¬ (gI S 0 29) = (5 : Int32) → wp_X12_plainShares a1 S (fun r4 S3 => Q r4 S3)))))
set_option maxHeartbeats 4000000 in
set_option maxRecDepth 100000 in
theorem c_X12_sharesIt (l : Launch) (D : va_G) (kA : Nat → ClassId) (ly : Nat → Nat) (n : List Nat) (hn : ∀ c, c < 20 → c ∈ n) (A : Nat → Prop) (a1 : Int32) : Ci l yX12_sharesIt wsX12_sharesIt 4 84 (Gp D (Er kA ly) ly n A kA) A [.ref (ly 0), .int a1] (wp_X12_sharesIt a1) := by
  intro S Q
  refine Met.ofW (cc := cX12_sharesIt) (maxL := 3) (ret := (some .int)) (by decide) rfl ?_
  intro p e s m args below meth c s₁ B hml hv
  obtain ⟨rfl, ⟨hP, hD, hK, hN⟩, hw⟩ := hv
  have hx := B.exec
  have hb := B.bytes
  have hr := B.returns
  have hts := atoms_spec (ws := wsX12_sharesIt) B.pre
  have hown : s.vm.findClass RX12 = some m.cls := findClass_of_methodNamed B.named
  have hlocks := B.notSynchronized
  have hH : Hp D (Er kA ly) ly n A s.heap S s.heap [] := ⟨hP, hD, va_S.rf⟩
  have hiX12 : ∀ w ∈ u_ws RX12 TX12 39, w ∈ wsX12_sharesIt := by decide +kernel
  have lk0 := hts (.fieldLink RX12 300 "SlowPanesModel" "kind" "I") (by decide +kernel)
  have lk1 := hts (.fieldLink RX12 315 "SlowPanesModel" "isParted" "Z") (by decide +kernel)
  have lk2 := hts (.fieldLink RX12 312 "SlowPanesModel" "own" "I") (by decide +kernel)
  have hl := lv_entry ([.ref (ly 0), .int a1]) (n := 3) (Nat.le_of_ble_eq_true rfl)
  rw [lg_entry_eq]
  generalize (lg_sl ([.ref (ly 0), .int a1]) ++ List.replicate (3 - (lg_sl ([.ref (ly 0), .int a1])).length) Slot.unset).toArray = ls at hl ⊢
  have hl : lv_has ls 3 [(0, .ref (ly 0)), (1, .int a1)] := hl
  rw [wp_X12_sharesIt] at hw
  refine lv_aload_n hx hb dX12_sharesIt_0 rfl (lv_at hl 0 rfl) ?_
  refine gf_r_29 hx hb hts hiX12 hown hK hn hH lk0 dX12_sharesIt_1 ?_
  refine lv_iconst (v := 2) hx hb dX12_sharesIt_4 (by decide +kernel) ?_
  refine lv_icmp_ne (tgt := 24) hx hb dX12_sharesIt_5 (by decide) (fun hc1 => ?_) (fun hc1 => ?_)
  · replace hw := hw.2 hc1
    refine lv_aload_n hx hb dX12_sharesIt_24 rfl (lv_at hl 0 rfl) ?_
    refine gf_r_29 hx hb hts hiX12 hown hK hn hH lk0 dX12_sharesIt_25 ?_
    refine lv_iconst (v := 5) hx hb dX12_sharesIt_28 (by decide +kernel) ?_
    refine lv_icmp_ne (tgt := 66) hx hb dX12_sharesIt_29 (by decide) (fun hc2 => ?_) (fun hc2 => ?_)
    · replace hw := hw.2 hc2
      refine lv_aload_n hx hb dX12_sharesIt_66 rfl (lv_at hl 0 rfl) ?_
      refine lv_iload_n hx hb dX12_sharesIt_67 rfl (lv_at hl 1 rfl) ?_
      refine k_afti (va_runV (As := [.int a1]) (rest := []) ⟨hx, hb, hml, hown, hts⟩ (c_X12_plainShares l D kA ly n hn A a1 S _) (cwV 1 hts gX12_sharesIt_X12_plainShares rfl rfl rfl (by decide +kernel) ⟨(Nat.le_of_ble_eq_true rfl), (Nat.le_of_ble_eq_true rfl)⟩) ⟨k_blind, (k_recv hK hH (hn _ (by decide)) Er_0 rfl), k_pre hK hN hH hw⟩ rfl rfl hl.1 rfl (lv_room (Nat.le_of_ble_eq_true rfl)) dX12_sharesIt_68 ⟨Nat.le_refl _, Nat.le_refl _⟩) hH (fun r4 S3 H locs hw hH => ?_)
      exact k_iret hx hb hr hlocks hK hN hH hw dX12_sharesIt_71
    · replace hw := hw.1 hc2
      refine lv_aload_n hx hb dX12_sharesIt_32 rfl (lv_at hl 0 rfl) ?_
      refine lv_bipush (v := 61) hx hb dX12_sharesIt_33 (by decide +kernel) ?_
      refine k_aftv (va_runV (As := [.int (61 : Int32)]) (rest := []) ⟨hx, hb, hml, hown, hts⟩ (c_X12_ran l D kA ly n hn A (61 : Int32) S _) (cwV 1 hts gX12_sharesIt_X12_ran rfl rfl rfl (by decide +kernel) ⟨(Nat.le_of_ble_eq_true rfl), (Nat.le_of_ble_eq_true rfl)⟩) ⟨k_blind, (k_recv hK hH (hn _ (by decide)) Er_0 rfl), k_pre hK hN hH hw⟩ rfl rfl hl.1 rfl (lv_room (Nat.le_of_ble_eq_true rfl)) dX12_sharesIt_35 ⟨Nat.le_refl _, Nat.le_refl _⟩) hH (fun S5 H locs hw hH => ?_)
      refine lv_aload_n hx hb dX12_sharesIt_38 rfl (lv_at hl 0 rfl) ?_
      refine lv_iload_n hx hb dX12_sharesIt_39 rfl (lv_at hl 1 rfl) ?_
      refine k_afti (va_runV (As := [.int a1]) (rest := []) ⟨hx, hb, hml, hown, hts⟩ (c_X12_plainShares l D kA ly n hn A a1 S5 _) (cwV 1 hts gX12_sharesIt_X12_plainShares rfl rfl rfl (by decide +kernel) ⟨(Nat.le_of_ble_eq_true rfl), (Nat.le_of_ble_eq_true rfl)⟩) ⟨k_blind, (k_recv hK hH (hn _ (by decide)) Er_0 rfl), k_pre hK hN hH hw⟩ rfl rfl hl.1 rfl (lv_room (Nat.le_of_ble_eq_true rfl)) dX12_sharesIt_40 ⟨Nat.le_refl _, Nat.le_refl _⟩) hH (fun r7 S6 H locs hw hH => ?_)
      refine lv_istore_n (lv' := [(2, .int r7), (0, .ref (ly 0)), (1, .int a1)]) hx hb dX12_sharesIt_43 rfl hl (by decide) rfl (fun ls hl => ?_)
      refine lv_aload_n hx hb dX12_sharesIt_44 rfl (lv_at hl 1 rfl) ?_
      refine gf_r_34 hx hb hts hiX12 hown hK hn hH lk1 dX12_sharesIt_45 ?_
      refine lv_if_eq (tgt := 55) hx hb dX12_sharesIt_48 (by decide) (fun hc8 => ?_) (fun hc8 => ?_)
      · replace hw := hw.1 hc8
        refine lv_iload_n hx hb dX12_sharesIt_55 rfl (lv_at hl 0 rfl) ?_
        refine lv_aload_n hx hb dX12_sharesIt_56 rfl (lv_at hl 1 rfl) ?_
        refine lv_aload_n hx hb dX12_sharesIt_57 rfl (lv_at hl 1 rfl) ?_
        refine gf_r_31 hx hb hts hiX12 hown hK hn hH lk2 dX12_sharesIt_58 ?_
        refine k_afti (va_runV (As := [.int (gI S6 0 31)]) (rest := [.int r7]) ⟨hx, hb, hml, hown, hts⟩ (c_X12_showsIt l D kA ly n hn A (gI S6 0 31) S6 _) (cwV 1 hts gX12_sharesIt_X12_showsIt rfl rfl rfl (by decide +kernel) ⟨(Nat.le_of_ble_eq_true rfl), (Nat.le_of_ble_eq_true rfl)⟩) ⟨k_blind, (k_recv hK hH (hn _ (by decide)) Er_0 rfl), k_pre hK hN hH hw⟩ rfl rfl hl.1 rfl (lv_room (Nat.le_of_ble_eq_true rfl)) dX12_sharesIt_61 ⟨Nat.le_refl _, Nat.le_refl _⟩) hH (fun r10 S9 H locs hw hH => ?_)
        refine lv_iadd hx hb dX12_sharesIt_64 ?_
        exact k_iret hx hb hr hlocks hK hN hH hw dX12_sharesIt_65
      · replace hw := hw.2 hc8
        refine lv_iconst (v := 0) hx hb dX12_sharesIt_51 (by decide +kernel) ?_
        refine lv_goto (tgt := 65) hx hb dX12_sharesIt_52 (by decide) ?_
        exact k_iret hx hb hr hlocks hK hN hH hw dX12_sharesIt_65
  · replace hw := hw.1 hc1
    refine lv_aload_n hx hb dX12_sharesIt_8 rfl (lv_at hl 0 rfl) ?_
    refine lv_bipush (v := 50) hx hb dX12_sharesIt_9 (by decide +kernel) ?_
    refine k_aftv (va_runV (As := [.int (50 : Int32)]) (rest := []) ⟨hx, hb, hml, hown, hts⟩ (c_X12_ran l D kA ly n hn A (50 : Int32) S _) (cwV 1 hts gX12_sharesIt_X12_ran rfl rfl rfl (by decide +kernel) ⟨(Nat.le_of_ble_eq_true rfl), (Nat.le_of_ble_eq_true rfl)⟩) ⟨k_blind, (k_recv hK hH (hn _ (by decide)) Er_0 rfl), k_pre hK hN hH hw⟩ rfl rfl hl.1 rfl (lv_room (Nat.le_of_ble_eq_true rfl)) dX12_sharesIt_11 ⟨Nat.le_refl _, Nat.le_refl _⟩) hH (fun S11 H locs hw hH => ?_)
    refine lv_aload_n hx hb dX12_sharesIt_14 rfl (lv_at hl 0 rfl) ?_
    refine lv_iload_n hx hb dX12_sharesIt_15 rfl (lv_at hl 1 rfl) ?_
    refine lv_iconst (v := 2) hx hb dX12_sharesIt_16 (by decide +kernel) ?_
    refine lv_iadd hx hb dX12_sharesIt_17 ?_
    refine k_afti (va_runV (As := [.int (a1 + (2 : Int32))]) (rest := []) ⟨hx, hb, hml, hown, hts⟩ (c_X12_plainShares l D kA ly n hn A (a1 + (2 : Int32)) S11 _) (cwV 1 hts gX12_sharesIt_X12_plainShares rfl rfl rfl (by decide +kernel) ⟨(Nat.le_of_ble_eq_true rfl), (Nat.le_of_ble_eq_true rfl)⟩) ⟨k_blind, (k_recv hK hH (hn _ (by decide)) Er_0 rfl), k_pre hK hN hH hw⟩ rfl rfl hl.1 rfl (lv_room (Nat.le_of_ble_eq_true rfl)) dX12_sharesIt_18 ⟨Nat.le_refl _, Nat.le_refl _⟩) hH (fun r13 S12 H locs hw hH => ?_)
    refine lv_iconst (v := 1) hx hb dX12_sharesIt_21 (by decide +kernel) ?_
    refine lv_ixor hx hb dX12_sharesIt_22 ?_
    exact k_iret hx hb hr hlocks hK hN hH hw dX12_sharesIt_23
def wp_X12_plainTells (a1 : Int32) (S : St) (Q : Int32 → St → Prop) : Prop := wp_X12_ran (13 : Int32) S (fun S1 => wp_X12_movesIt a1 S1 (fun r3 S2 => Q (r3 ^^^ (gI S2 0 31)) S2))
set_option maxHeartbeats 4000000 in
set_option maxRecDepth 100000 in
theorem c_X12_plainTells (l : Launch) (D : va_G) (kA : Nat → ClassId) (ly : Nat → Nat) (n : List Nat) (hn : ∀ c, c < 20 → c ∈ n) (A : Nat → Prop) (a1 : Int32) : Ci l yX12_plainTells wsX12_plainTells 6 127 (Gp D (Er kA ly) ly n A kA) A [.ref (ly 0), .int a1] (wp_X12_plainTells a1) := by
  intro S Q
  refine Met.ofW (cc := cX12_plainTells) (maxL := 2) (ret := (some .int)) (by decide) rfl ?_
  intro p e s m args below meth c s₁ B hml hv
  obtain ⟨rfl, ⟨hP, hD, hK, hN⟩, hw⟩ := hv
  have hx := B.exec
  have hb := B.bytes
  have hr := B.returns
  have hts := atoms_spec (ws := wsX12_plainTells) B.pre
  have hown : s.vm.findClass RX12 = some m.cls := findClass_of_methodNamed B.named
  have hlocks := B.notSynchronized
  have hH : Hp D (Er kA ly) ly n A s.heap S s.heap [] := ⟨hP, hD, va_S.rf⟩
  have hiX12 : ∀ w ∈ u_ws RX12 TX12 39, w ∈ wsX12_plainTells := by decide +kernel
  have lk0 := hts (.fieldLink RX12 312 "SlowPanesModel" "own" "I") (by decide +kernel)
  have hl := lv_entry ([.ref (ly 0), .int a1]) (n := 2) (Nat.le_of_ble_eq_true rfl)
  rw [lg_entry_eq]
  generalize (lg_sl ([.ref (ly 0), .int a1]) ++ List.replicate (2 - (lg_sl ([.ref (ly 0), .int a1])).length) Slot.unset).toArray = ls at hl ⊢
  have hl : lv_has ls 2 [(0, .ref (ly 0)), (1, .int a1)] := hl
  rw [wp_X12_plainTells] at hw
  refine lv_aload_n hx hb dX12_plainTells_0 rfl (lv_at hl 0 rfl) ?_
  refine lv_bipush (v := 13) hx hb dX12_plainTells_1 (by decide +kernel) ?_
  refine k_aftv (va_runV (As := [.int (13 : Int32)]) (rest := []) ⟨hx, hb, hml, hown, hts⟩ (c_X12_ran l D kA ly n hn A (13 : Int32) S _) (cwV 1 hts gX12_plainTells_X12_ran rfl rfl rfl (by decide +kernel) ⟨(Nat.le_of_ble_eq_true rfl), (Nat.le_of_ble_eq_true rfl)⟩) ⟨k_blind, (k_recv hK hH (hn _ (by decide)) Er_0 rfl), k_pre hK hN hH hw⟩ rfl rfl hl.1 rfl (lv_room (Nat.le_of_ble_eq_true rfl)) dX12_plainTells_3 ⟨Nat.le_refl _, Nat.le_refl _⟩) hH (fun S1 H locs hw hH => ?_)
  refine lv_aload_n hx hb dX12_plainTells_6 rfl (lv_at hl 0 rfl) ?_
  refine lv_iload_n hx hb dX12_plainTells_7 rfl (lv_at hl 1 rfl) ?_
  refine k_afti (va_runV (As := [.int a1]) (rest := []) ⟨hx, hb, hml, hown, hts⟩ (c_X12_movesIt l D kA ly n hn A a1 S1 _) (cwV 1 hts gX12_plainTells_X12_movesIt rfl rfl rfl (by decide +kernel) ⟨(Nat.le_of_ble_eq_true rfl), (Nat.le_of_ble_eq_true rfl)⟩) ⟨k_blind, (k_recv hK hH (hn _ (by decide)) Er_0 rfl), k_pre hK hN hH hw⟩ rfl rfl hl.1 rfl (lv_room (Nat.le_of_ble_eq_true rfl)) dX12_plainTells_8 ⟨Nat.le_refl _, Nat.le_refl _⟩) hH (fun r3 S2 H locs hw hH => ?_)
  refine lv_aload_n hx hb dX12_plainTells_11 rfl (lv_at hl 0 rfl) ?_
  refine gf_r_31 hx hb hts hiX12 hown hK hn hH lk0 dX12_plainTells_12 ?_
  refine lv_ixor hx hb dX12_plainTells_15 ?_
  exact k_iret hx hb hr hlocks hK hN hH hw dX12_plainTells_16
def wj_X12_tellsIt_16 (a1 : Int32) (Q : Int32 → St → Prop)   (S_16 : St) : Prop := wp_X12_ran (31 : Int32) S_16 (fun S1 => wp_X12_plainTells a1 S1 (fun r3 S2 => wp_X12_sharesIt (gI S2 0 30) S2 (fun r5 S4 => Q (r3 + r5) S4)))
def wp_X12_tellsIt (a1 : Int32) (S : St) (Q : Int32 → St → Prop) : Prop := (((gI S 0 29) = (3 : Int32) → wj_X12_tellsIt_16 a1 Q S) ∧ (¬ (gI S 0 29) = (3 : Int32) → (((gI S 0 29) = (4 : Int32) → wj_X12_tellsIt_16 a1 Q S) ∧ (¬ (gI S 0 29) = (4 : Int32) → (((gI S 0 29) = (5 : Int32) → wp_X12_ran (60 : Int32) S (fun S11 => wp_X12_plainTells a1 S11 (fun r13 S12 => Q (r13 * (2 : Int32)) S12))) ∧ (¬ (gI S 0 29) = (5 : Int32) → wp_X12_plainTells a1 S (fun r10 S9 => Q r10 S9)))))))
set_option maxHeartbeats 4000000 in
set_option maxRecDepth 100000 in
theorem c_X12_tellsIt (l : Launch) (D : va_G) (kA : Nat → ClassId) (ly : Nat → Nat) (n : List Nat) (hn : ∀ c, c < 20 → c ∈ n) (A : Nat → Prop) (a1 : Int32) : Ci l yX12_tellsIt wsX12_tellsIt 7 148 (Gp D (Er kA ly) ly n A kA) A [.ref (ly 0), .int a1] (wp_X12_tellsIt a1) := by
  intro S Q
  refine Met.ofW (cc := cX12_tellsIt) (maxL := 3) (ret := (some .int)) (by decide) rfl ?_
  intro p e s m args below meth c s₁ B hml hv
  obtain ⟨rfl, ⟨hP, hD, hK, hN⟩, hw⟩ := hv
  have hx := B.exec
  have hb := B.bytes
  have hr := B.returns
  have hts := atoms_spec (ws := wsX12_tellsIt) B.pre
  have hown : s.vm.findClass RX12 = some m.cls := findClass_of_methodNamed B.named
  have hlocks := B.notSynchronized
  have hH : Hp D (Er kA ly) ly n A s.heap S s.heap [] := ⟨hP, hD, va_S.rf⟩
  have hiX12 : ∀ w ∈ u_ws RX12 TX12 39, w ∈ wsX12_tellsIt := by decide +kernel
  have lk0 := hts (.fieldLink RX12 300 "SlowPanesModel" "kind" "I") (by decide +kernel)
  have lk1 := hts (.fieldLink RX12 294 "SlowPanesModel" "number" "I") (by decide +kernel)
  have hl := lv_entry ([.ref (ly 0), .int a1]) (n := 3) (Nat.le_of_ble_eq_true rfl)
  rw [lg_entry_eq]
  generalize (lg_sl ([.ref (ly 0), .int a1]) ++ List.replicate (3 - (lg_sl ([.ref (ly 0), .int a1])).length) Slot.unset).toArray = ls at hl ⊢
  have hl : lv_has ls 3 [(0, .ref (ly 0)), (1, .int a1)] := hl
  rw [wp_X12_tellsIt] at hw
  refine lv_aload_n hx hb dX12_tellsIt_0 rfl (lv_at hl 0 rfl) ?_
  refine gf_r_29 hx hb hts hiX12 hown hK hn hH lk0 dX12_tellsIt_1 ?_
  refine lv_iconst (v := 3) hx hb dX12_tellsIt_4 (by decide +kernel) ?_
  have J_16 : ∀  (S_16 : St) (H : Heap) (locs : List Loc) (ls : Array Slot), wj_X12_tellsIt_16 a1 Q S_16 → Hp D (Er kA ly) ly n A s.heap S_16 H locs → lv_has ls 3 [(0, .ref (ly 0)), (1, .int a1)] → W p l e (headSpec wsX12_tellsIt { frames := 7, cells := 0, slots := 0, locals := 148 }).room s m [.ref (ly 0), .int a1].toArray below meth c H locs 0 0 (MQ below (va_Qi Q (Gp D (Er kA ly) ly n A kA) A) [.ref (ly 0), .int a1].toArray s 0 0 A) (F0 m 16 ls []) := by
    intro S_16 H locs ls hw hH hl
    rw [wj_X12_tellsIt_16] at hw
    refine lv_aload_n hx hb dX12_tellsIt_16 rfl (lv_at hl 0 rfl) ?_
    refine lv_bipush (v := 31) hx hb dX12_tellsIt_17 (by decide +kernel) ?_
    refine k_aftv (va_runV (As := [.int (31 : Int32)]) (rest := []) ⟨hx, hb, hml, hown, hts⟩ (c_X12_ran l D kA ly n hn A (31 : Int32) S_16 _) (cwV 1 hts gX12_tellsIt_X12_ran rfl rfl rfl (by decide +kernel) ⟨(Nat.le_of_ble_eq_true rfl), (Nat.le_of_ble_eq_true rfl)⟩) ⟨k_blind, (k_recv hK hH (hn _ (by decide)) Er_0 rfl), k_pre hK hN hH hw⟩ rfl rfl hl.1 rfl (lv_room (Nat.le_of_ble_eq_true rfl)) dX12_tellsIt_19 ⟨Nat.le_refl _, Nat.le_refl _⟩) hH (fun S1 H locs hw hH => ?_)
    refine lv_aload_n hx hb dX12_tellsIt_22 rfl (lv_at hl 0 rfl) ?_
    refine lv_iload_n hx hb dX12_tellsIt_23 rfl (lv_at hl 1 rfl) ?_
    refine k_afti (va_runV (As := [.int a1]) (rest := []) ⟨hx, hb, hml, hown, hts⟩ (c_X12_plainTells l D kA ly n hn A a1 S1 _) (cwV 1 hts gX12_tellsIt_X12_plainTells rfl rfl rfl (by decide +kernel) ⟨(Nat.le_of_ble_eq_true rfl), (Nat.le_of_ble_eq_true rfl)⟩) ⟨k_blind, (k_recv hK hH (hn _ (by decide)) Er_0 rfl), k_pre hK hN hH hw⟩ rfl rfl hl.1 rfl (lv_room (Nat.le_of_ble_eq_true rfl)) dX12_tellsIt_24 ⟨Nat.le_refl _, Nat.le_refl _⟩) hH (fun r3 S2 H locs hw hH => ?_)
    refine lv_istore_n (lv' := [(2, .int r3), (0, .ref (ly 0)), (1, .int a1)]) hx hb dX12_tellsIt_27 rfl hl (by decide) rfl (fun ls hl => ?_)
    refine lv_iload_n hx hb dX12_tellsIt_28 rfl (lv_at hl 0 rfl) ?_
    refine lv_aload_n hx hb dX12_tellsIt_29 rfl (lv_at hl 1 rfl) ?_
    refine lv_aload_n hx hb dX12_tellsIt_30 rfl (lv_at hl 1 rfl) ?_
    refine gf_r_30 hx hb hts hiX12 hown hK hn hH lk1 dX12_tellsIt_31 ?_
    refine k_afti (va_runV (As := [.int (gI S2 0 30)]) (rest := [.int r3]) ⟨hx, hb, hml, hown, hts⟩ (c_X12_sharesIt l D kA ly n hn A (gI S2 0 30) S2 _) (cwV 1 hts gX12_tellsIt_X12_sharesIt rfl rfl rfl (by decide +kernel) ⟨(Nat.le_of_ble_eq_true rfl), (Nat.le_of_ble_eq_true rfl)⟩) ⟨k_blind, (k_recv hK hH (hn _ (by decide)) Er_0 rfl), k_pre hK hN hH hw⟩ rfl rfl hl.1 rfl (lv_room (Nat.le_of_ble_eq_true rfl)) dX12_tellsIt_34 ⟨Nat.le_refl _, Nat.le_refl _⟩) hH (fun r5 S4 H locs hw hH => ?_)
    refine lv_iadd hx hb dX12_tellsIt_37 ?_
    exact k_iret hx hb hr hlocks hK hN hH hw dX12_tellsIt_38
  refine lv_icmp_eq (tgt := 16) hx hb dX12_tellsIt_5 (by decide) (fun hc6 => ?_) (fun hc6 => ?_)
  · replace hw := hw.1 hc6
    exact J_16  S _ _ ls hw hH (lv_sub hl [0, 1] rfl)
  · replace hw := hw.2 hc6
    refine lv_aload_n hx hb dX12_tellsIt_8 rfl (lv_at hl 0 rfl) ?_
    refine gf_r_29 hx hb hts hiX12 hown hK hn hH lk0 dX12_tellsIt_9 ?_
    refine lv_iconst (v := 4) hx hb dX12_tellsIt_12 (by decide +kernel) ?_
    refine lv_icmp_ne (tgt := 39) hx hb dX12_tellsIt_13 (by decide) (fun hc7 => ?_) (fun hc7 => ?_)
    · replace hw := hw.2 hc7
      refine lv_aload_n hx hb dX12_tellsIt_39 rfl (lv_at hl 0 rfl) ?_
      refine gf_r_29 hx hb hts hiX12 hown hK hn hH lk0 dX12_tellsIt_40 ?_
      refine lv_iconst (v := 5) hx hb dX12_tellsIt_43 (by decide +kernel) ?_
      refine lv_icmp_ne (tgt := 61) hx hb dX12_tellsIt_44 (by decide) (fun hc8 => ?_) (fun hc8 => ?_)
      · replace hw := hw.2 hc8
        refine lv_aload_n hx hb dX12_tellsIt_61 rfl (lv_at hl 0 rfl) ?_
        refine lv_iload_n hx hb dX12_tellsIt_62 rfl (lv_at hl 1 rfl) ?_
        refine k_afti (va_runV (As := [.int a1]) (rest := []) ⟨hx, hb, hml, hown, hts⟩ (c_X12_plainTells l D kA ly n hn A a1 S _) (cwV 1 hts gX12_tellsIt_X12_plainTells rfl rfl rfl (by decide +kernel) ⟨(Nat.le_of_ble_eq_true rfl), (Nat.le_of_ble_eq_true rfl)⟩) ⟨k_blind, (k_recv hK hH (hn _ (by decide)) Er_0 rfl), k_pre hK hN hH hw⟩ rfl rfl hl.1 rfl (lv_room (Nat.le_of_ble_eq_true rfl)) dX12_tellsIt_63 ⟨Nat.le_refl _, Nat.le_refl _⟩) hH (fun r10 S9 H locs hw hH => ?_)
        exact k_iret hx hb hr hlocks hK hN hH hw dX12_tellsIt_66
      · replace hw := hw.1 hc8
        refine lv_aload_n hx hb dX12_tellsIt_47 rfl (lv_at hl 0 rfl) ?_
        refine lv_bipush (v := 60) hx hb dX12_tellsIt_48 (by decide +kernel) ?_
        refine k_aftv (va_runV (As := [.int (60 : Int32)]) (rest := []) ⟨hx, hb, hml, hown, hts⟩ (c_X12_ran l D kA ly n hn A (60 : Int32) S _) (cwV 1 hts gX12_tellsIt_X12_ran rfl rfl rfl (by decide +kernel) ⟨(Nat.le_of_ble_eq_true rfl), (Nat.le_of_ble_eq_true rfl)⟩) ⟨k_blind, (k_recv hK hH (hn _ (by decide)) Er_0 rfl), k_pre hK hN hH hw⟩ rfl rfl hl.1 rfl (lv_room (Nat.le_of_ble_eq_true rfl)) dX12_tellsIt_50 ⟨Nat.le_refl _, Nat.le_refl _⟩) hH (fun S11 H locs hw hH => ?_)
        refine lv_aload_n hx hb dX12_tellsIt_53 rfl (lv_at hl 0 rfl) ?_
        refine lv_iload_n hx hb dX12_tellsIt_54 rfl (lv_at hl 1 rfl) ?_
        refine k_afti (va_runV (As := [.int a1]) (rest := []) ⟨hx, hb, hml, hown, hts⟩ (c_X12_plainTells l D kA ly n hn A a1 S11 _) (cwV 1 hts gX12_tellsIt_X12_plainTells rfl rfl rfl (by decide +kernel) ⟨(Nat.le_of_ble_eq_true rfl), (Nat.le_of_ble_eq_true rfl)⟩) ⟨k_blind, (k_recv hK hH (hn _ (by decide)) Er_0 rfl), k_pre hK hN hH hw⟩ rfl rfl hl.1 rfl (lv_room (Nat.le_of_ble_eq_true rfl)) dX12_tellsIt_55 ⟨Nat.le_refl _, Nat.le_refl _⟩) hH (fun r13 S12 H locs hw hH => ?_)
        refine lv_iconst (v := 2) hx hb dX12_tellsIt_58 (by decide +kernel) ?_
        refine lv_imul hx hb dX12_tellsIt_59 ?_
        exact k_iret hx hb hr hlocks hK hN hH hw dX12_tellsIt_60
    · replace hw := hw.1 hc7
      exact J_16  S _ _ ls hw hH (lv_sub hl [0, 1] rfl)
