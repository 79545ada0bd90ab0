def wj_X12_act_21 (a1 : Int32) (a2 : Int32) (a3 : Int32) (Q : Int32 → St → Prop)  (q0_21 : Int32) (S_21 : St) : Prop := wp_X12_in a2 (0 : Int32) (3 : Int32) S_21 (fun r5 S4 => ((r5 = 0 → Q (0 : Int32) S4) ∧ (¬ r5 = 0 → wp_X12_in q0_21 (0 : Int32) (5 : Int32) S4 (fun r8 S7 => ((r8 = 0 → Q (0 : Int32) S7) ∧ (¬ r8 = 0 → (∀ S10 : St, S10 = sI S7 0 29 q0_21 → (vp_in a1 4 ∧ (∀ S12 : St, S12 = sI S10 0 30 (gA S10 15 a1.toNatClampNeg) → wp_X12_its (gI S12 0 30) (1 : Int32) S12 (fun r14 S13 => (∀ S15 : St, S15 = sI S13 0 31 r14 → (∀ S16 : St, S16 = sI S15 0 34 (0 : Int32) → ((a2 = 0 → wp_X12_showsIt a3 S16 (fun r30 S29 => (((gI S29 0 34) = 0 → Q r30 S29) ∧ (¬ (gI S29 0 34) = 0 → Q (-15 : Int32) S29)))) ∧ (¬ a2 = 0 → ((a2 = (1 : Int32) → wp_X12_movesIt a3 S16 (fun r27 S26 => (((gI S26 0 34) = 0 → Q r27 S26) ∧ (¬ (gI S26 0 34) = 0 → Q (-15 : Int32) S26)))) ∧ (¬ a2 = (1 : Int32) → ((a2 = (2 : Int32) → wp_X12_sharesIt a3 S16 (fun r24 S23 => (((gI S23 0 34) = 0 → Q r24 S23) ∧ (¬ (gI S23 0 34) = 0 → Q (-15 : Int32) S23)))) ∧ (¬ a2 = (2 : Int32) → wp_X12_tellsIt a3 S16 (fun r21 S20 => (((gI S20 0 34) = 0 → Q r21 S20) ∧ (¬ (gI S20 0 34) = 0 → Q (-15 : Int32) S20)))))))))))))))))))))
def wp_X12_act (a1 : Int32) (a2 : Int32) (a3 : Int32) (S : St) (Q : Int32 → St → Prop) : Prop := (∀ S1 : St, S1 = sI S 0 33 (0 : Int32) → wp_X12_isShelf a1 S1 (fun r3 S2 => ((r3 = 0 → wj_X12_act_21 a1 a2 a3 Q (-1 : Int32) S2) ∧ (¬ r3 = 0 → wp_X12_kindOn a1 S2 (fun r34 S33 => wj_X12_act_21 a1 a2 a3 Q r34 S33)))))
set_option maxHeartbeats 4000000 in
set_option maxRecDepth 100000 in
theorem c_X12_act (l : Launch) (D : va_G) (kA : Nat → ClassId) (ly : Nat → Nat) (n : List Nat) (hn : ∀ c, c < 20 → c ∈ n) (A : Nat → Prop) (a1 : Int32) (a2 : Int32) (a3 : Int32) : Ci l yX12_act wsX12_act 8 170 (Gp D (Er kA ly) ly n A kA) A [.ref (ly 0), .int a1, .int a2, .int a3] (wp_X12_act a1 a2 a3) := by
  intro S Q
  refine Met.ofW (cc := cX12_act) (maxL := 6) (ret := (some .int)) (by decide) rfl ?_
  intro p e s m args below meth c s₁ B hml hv
  obtain ⟨rfl, ⟨hP, hD, hK, hN⟩, hw⟩ := hv
  have hx := B.exec
  have hb := B.bytes
  have hr := B.returns
  have hts := atoms_spec (ws := wsX12_act) B.pre
  have hown : s.vm.findClass RX12 = some m.cls := findClass_of_methodNamed B.named
  have hlocks := B.notSynchronized
  have hH : Hp D (Er kA ly) ly n A s.heap S s.heap [] := ⟨hP, hD, va_S.rf⟩
  have hiX12 : ∀ w ∈ u_ws RX12 TX12 39, w ∈ wsX12_act := by decide +kernel
  have lk0 := hts (.fieldLink RX12 288 "SlowPanesModel" "bodies" "I") (by decide +kernel)
  have lk1 := hts (.fieldLink RX12 300 "SlowPanesModel" "kind" "I") (by decide +kernel)
  have lk2 := hts (.fieldLink RX12 57 "SlowPanesModel" "heldNumber" "[I") (by decide +kernel)
  have lk3 := hts (.fieldLink RX12 294 "SlowPanesModel" "number" "I") (by decide +kernel)
  have lk4 := hts (.fieldLink RX12 312 "SlowPanesModel" "own" "I") (by decide +kernel)
  have lk5 := hts (.fieldLink RX12 315 "SlowPanesModel" "isParted" "Z") (by decide +kernel)
  have hl := lv_entry ([.ref (ly 0), .int a1, .int a2, .int a3]) (n := 6) (Nat.le_of_ble_eq_true rfl)
  rw [lg_entry_eq]
  generalize (lg_sl ([.ref (ly 0), .int a1, .int a2, .int a3]) ++ List.replicate (6 - (lg_sl ([.ref (ly 0), .int a1, .int a2, .int a3])).length) Slot.unset).toArray = ls at hl ⊢
  have hl : lv_has ls 6 [(0, .ref (ly 0)), (1, .int a1), (2, .int a2), (3, .int a3)] := hl
  rw [wp_X12_act] at hw
  refine lv_aload_n hx hb dX12_act_0 rfl (lv_at hl 0 rfl) ?_
  refine lv_iconst (v := 0) hx hb dX12_act_1 (by decide +kernel) ?_
  refine pf_r_33 hx hb hts hiX12 hown hK hn hH lk0 dX12_act_2 (fun S1 H locs eS1 hH => ?_)
  replace hw := hw S1 eS1
  refine lv_iload_n hx hb dX12_act_5 rfl (lv_at hl 1 rfl) ?_
  refine k_afti (va_runS (As := [.int a1]) (rest := []) ⟨hx, hb, hml, hown, hts⟩ (c_X12_isShelf l D kA ly n hn A a1 S1 _) (va_cwS 1 hts gX12_act_X12_isShelf rfl rfl rfl (by decide +kernel) ⟨(Nat.le_of_ble_eq_true rfl), (Nat.le_of_ble_eq_true rfl)⟩) ⟨k_blind, k_pre hK hN hH hw⟩ rfl rfl hl.1 rfl (lv_room (Nat.le_of_ble_eq_true rfl)) dX12_act_6 ⟨Nat.le_refl _, Nat.le_refl _⟩) hH (fun r3 S2 H locs hw hH => ?_)
  have J_21 : ∀ (q0_21 : Int32) (S_21 : St) (H : Heap) (locs : List Loc) (ls : Array Slot), wj_X12_act_21 a1 a2 a3 Q q0_21 S_21 → Hp D (Er kA ly) ly n A s.heap S_21 H locs → lv_has ls 6 [(0, .ref (ly 0)), (1, .int a1), (2, .int a2), (3, .int a3)] → W p l e (headSpec wsX12_act { frames := 8, cells := 0, slots := 0, locals := 170 }).room s m [.ref (ly 0), .int a1, .int a2, .int a3].toArray below meth c H locs 0 0 (MQ below (va_Qi Q (Gp D (Er kA ly) ly n A kA) A) [.ref (ly 0), .int a1, .int a2, .int a3].toArray s 0 0 A) (F0 m 21 ls [.int q0_21]) := by
    intro q0_21 S_21 H locs ls hw hH hl
    rw [wj_X12_act_21] at hw
    refine lv_istore (lv' := [(4, .int q0_21), (0, .ref (ly 0)), (1, .int a1), (2, .int a2), (3, .int a3)]) hx hb dX12_act_21 hl (by decide) rfl (fun ls hl => ?_)
    refine lv_iload_n hx hb dX12_act_23 rfl (lv_at hl 3 rfl) ?_
    refine lv_iconst (v := 0) hx hb dX12_act_24 (by decide +kernel) ?_
    refine lv_iconst (v := 3) hx hb dX12_act_25 (by decide +kernel) ?_
    refine k_afti (va_runS (As := [.int a2, .int (0 : Int32), .int (3 : Int32)]) (rest := []) ⟨hx, hb, hml, hown, hts⟩ (c_X12_in l D kA ly n hn A a2 (0 : Int32) (3 : Int32) S_21 _) (va_cwS 3 hts gX12_act_X12_in rfl rfl rfl (by decide +kernel) ⟨(Nat.le_of_ble_eq_true rfl), (Nat.le_of_ble_eq_true rfl)⟩) ⟨k_blind, k_pre hK hN hH hw⟩ rfl rfl hl.1 rfl (lv_room (Nat.le_of_ble_eq_true rfl)) dX12_act_26 ⟨Nat.le_refl _, Nat.le_refl _⟩) hH (fun r5 S4 H locs hw hH => ?_)
    refine lv_if_eq (tgt := 42) hx hb dX12_act_29 (by decide) (fun hc6 => ?_) (fun hc6 => ?_)
    · replace hw := hw.1 hc6
      refine lv_iconst (v := 0) hx hb dX12_act_42 (by decide +kernel) ?_
      exact k_iret hx hb hr hlocks hK hN hH hw dX12_act_43
    · replace hw := hw.2 hc6
      refine lv_iload hx hb dX12_act_32 (lv_at hl 0 rfl) ?_
      refine lv_iconst (v := 0) hx hb dX12_act_34 (by decide +kernel) ?_
      refine lv_iconst (v := 5) hx hb dX12_act_35 (by decide +kernel) ?_
      refine k_afti (va_runS (As := [.int q0_21, .int (0 : Int32), .int (5 : Int32)]) (rest := []) ⟨hx, hb, hml, hown, hts⟩ (c_X12_in l D kA ly n hn A q0_21 (0 : Int32) (5 : Int32) S4 _) (va_cwS 3 hts gX12_act_X12_in rfl rfl rfl (by decide +kernel) ⟨(Nat.le_of_ble_eq_true rfl), (Nat.le_of_ble_eq_true rfl)⟩) ⟨k_blind, k_pre hK hN hH hw⟩ rfl rfl hl.1 rfl (lv_room (Nat.le_of_ble_eq_true rfl)) dX12_act_36 ⟨Nat.le_refl _, Nat.le_refl _⟩) hH (fun r8 S7 H locs hw hH => ?_)
      refine lv_if_ne (tgt := 44) hx hb dX12_act_39 (by decide) (fun hc9 => ?_) (fun hc9 => ?_)
      · replace hw := hw.2 hc9
        refine lv_aload_n hx hb dX12_act_44 rfl (lv_at hl 1 rfl) ?_
        refine lv_iload hx hb dX12_act_45 (lv_at hl 0 rfl) ?_
        refine pf_r_29 hx hb hts hiX12 hown hK hn hH lk1 dX12_act_47 (fun S10 H locs eS10 hH => ?_)
        replace hw := hw S10 eS10
        refine lv_aload_n hx hb dX12_act_50 rfl (lv_at hl 1 rfl) ?_
        refine lv_aload_n hx hb dX12_act_51 rfl (lv_at hl 1 rfl) ?_
        refine gf_r_27 hx hb hts hiX12 hown hK hn hH lk2 dX12_act_52 ?_
        refine lv_iload_n hx hb dX12_act_55 rfl (lv_at hl 2 rfl) ?_
        obtain ⟨hi_11, hw⟩ := hw
        refine k_ild hx hb hK hH (hn _ (by decide)) Er_15 hi_11 dX12_act_56 ?_
        refine pf_r_30 hx hb hts hiX12 hown hK hn hH lk3 dX12_act_57 (fun S12 H locs eS12 hH => ?_)
        replace hw := hw S12 eS12
        refine lv_aload_n hx hb dX12_act_60 rfl (lv_at hl 1 rfl) ?_
        refine lv_aload_n hx hb dX12_act_61 rfl (lv_at hl 1 rfl) ?_
        refine lv_aload_n hx hb dX12_act_62 rfl (lv_at hl 1 rfl) ?_
        refine gf_r_30 hx hb hts hiX12 hown hK hn hH lk3 dX12_act_63 ?_
        refine lv_iconst (v := 1) hx hb dX12_act_66 (by decide +kernel) ?_
        refine k_afti (va_runV (As := [.int (gI S12 0 30), .int (1 : Int32)]) (rest := [.ref (ly 0)]) ⟨hx, hb, hml, hown, hts⟩ (c_X12_its l D kA ly n hn A (gI S12 0 30) (1 : Int32) S12 _) (cwV 2 hts gX12_act_X12_its rfl rfl rfl (by decide +kernel) ⟨(Nat.le_of_ble_eq_true rfl), (Nat.le_of_ble_eq_true rfl)⟩) ⟨k_blind, (k_recv hK hH (hn _ (by decide)) Er_0 rfl), k_pre hK hN hH hw⟩ rfl rfl hl.1 rfl (lv_room (Nat.le_of_ble_eq_true rfl)) dX12_act_67 ⟨Nat.le_refl _, Nat.le_refl _⟩) hH (fun r14 S13 H locs hw hH => ?_)
        refine pf_r_31 hx hb hts hiX12 hown hK hn hH lk4 dX12_act_70 (fun S15 H locs eS15 hH => ?_)
        replace hw := hw S15 eS15
        refine lv_aload_n hx hb dX12_act_73 rfl (lv_at hl 1 rfl) ?_
        refine lv_iconst (v := 0) hx hb dX12_act_74 (by decide +kernel) ?_
        refine pf_r_34 hx hb hts hiX12 hown hK hn hH lk5 isB_0 dX12_act_75 (fun S16 H locs eS16 hH => ?_)
        replace hw := hw S16 eS16
        refine lv_iload_n hx hb dX12_act_78 rfl (lv_at hl 3 rfl) ?_
        refine lv_if_ne (tgt := 90) hx hb dX12_act_79 (by decide) (fun hc17 => ?_) (fun hc17 => ?_)
        · replace hw := hw.2 hc17
          refine lv_iload_n hx hb dX12_act_90 rfl (lv_at hl 3 rfl) ?_
          refine lv_iconst (v := 1) hx hb dX12_act_91 (by decide +kernel) ?_
          refine lv_icmp_ne (tgt := 103) hx hb dX12_act_92 (by decide) (fun hc18 => ?_) (fun hc18 => ?_)
          · replace hw := hw.2 hc18
            refine lv_iload_n hx hb dX12_act_103 rfl (lv_at hl 3 rfl) ?_
            refine lv_iconst (v := 2) hx hb dX12_act_104 (by decide +kernel) ?_
            refine lv_icmp_ne (tgt := 116) hx hb dX12_act_105 (by decide) (fun hc19 => ?_) (fun hc19 => ?_)
            · replace hw := hw.2 hc19
              refine lv_aload_n hx hb dX12_act_116 rfl (lv_at hl 1 rfl) ?_
              refine lv_iload_n hx hb dX12_act_117 rfl (lv_at hl 4 rfl) ?_
              refine k_afti (va_runV (As := [.int a3]) (rest := []) ⟨hx, hb, hml, hown, hts⟩ (c_X12_tellsIt l D kA ly n hn A a3 S16 _) (cwV 1 hts gX12_act_X12_tellsIt rfl rfl rfl (by decide +kernel) ⟨(Nat.le_of_ble_eq_true rfl), (Nat.le_of_ble_eq_true rfl)⟩) ⟨k_blind, (k_recv hK hH (hn _ (by decide)) Er_0 rfl), k_pre hK hN hH hw⟩ rfl rfl hl.1 rfl (lv_room (Nat.le_of_ble_eq_true rfl)) dX12_act_118 ⟨Nat.le_refl _, Nat.le_refl _⟩) hH (fun r21 S20 H locs hw hH => ?_)
              refine lv_istore (lv' := [(5, .int r21), (4, .int q0_21), (0, .ref (ly 0)), (1, .int a1), (2, .int a2), (3, .int a3)]) hx hb dX12_act_121 hl (by decide) rfl (fun ls hl => ?_)
              refine lv_aload_n hx hb dX12_act_123 rfl (lv_at hl 2 rfl) ?_
              refine gf_r_34 hx hb hts hiX12 hown hK hn hH lk5 dX12_act_124 ?_
              refine lv_if_eq (tgt := 135) hx hb dX12_act_127 (by decide) (fun hc22 => ?_) (fun hc22 => ?_)
              · replace hw := hw.1 hc22
                refine lv_iload hx hb dX12_act_135 (lv_at hl 0 rfl) ?_
                exact k_iret hx hb hr hlocks hK hN hH hw dX12_act_137
              · replace hw := hw.2 hc22
                refine lv_bipush (v := -15) hx hb dX12_act_130 (by decide +kernel) ?_
                refine lv_goto (tgt := 137) hx hb dX12_act_132 (by decide) ?_
                exact k_iret hx hb hr hlocks hK hN hH hw dX12_act_137
            · replace hw := hw.1 hc19
              refine lv_aload_n hx hb dX12_act_108 rfl (lv_at hl 1 rfl) ?_
              refine lv_iload_n hx hb dX12_act_109 rfl (lv_at hl 4 rfl) ?_
              refine k_afti (va_runV (As := [.int a3]) (rest := []) ⟨hx, hb, hml, hown, hts⟩ (c_X12_sharesIt l D kA ly n hn A a3 S16 _) (cwV 1 hts gX12_act_X12_sharesIt rfl rfl rfl (by decide +kernel) ⟨(Nat.le_of_ble_eq_true rfl), (Nat.le_of_ble_eq_true rfl)⟩) ⟨k_blind, (k_recv hK hH (hn _ (by decide)) Er_0 rfl), k_pre hK hN hH hw⟩ rfl rfl hl.1 rfl (lv_room (Nat.le_of_ble_eq_true rfl)) dX12_act_110 ⟨Nat.le_refl _, Nat.le_refl _⟩) hH (fun r24 S23 H locs hw hH => ?_)
              refine lv_goto (tgt := 121) hx hb dX12_act_113 (by decide) ?_
              refine lv_istore (lv' := [(5, .int r24), (4, .int q0_21), (0, .ref (ly 0)), (1, .int a1), (2, .int a2), (3, .int a3)]) hx hb dX12_act_121 hl (by decide) rfl (fun ls hl => ?_)
              refine lv_aload_n hx hb dX12_act_123 rfl (lv_at hl 2 rfl) ?_
              refine gf_r_34 hx hb hts hiX12 hown hK hn hH lk5 dX12_act_124 ?_
              refine lv_if_eq (tgt := 135) hx hb dX12_act_127 (by decide) (fun hc25 => ?_) (fun hc25 => ?_)
              · replace hw := hw.1 hc25
                refine lv_iload hx hb dX12_act_135 (lv_at hl 0 rfl) ?_
                exact k_iret hx hb hr hlocks hK hN hH hw dX12_act_137
              · replace hw := hw.2 hc25
                refine lv_bipush (v := -15) hx hb dX12_act_130 (by decide +kernel) ?_
                refine lv_goto (tgt := 137) hx hb dX12_act_132 (by decide) ?_
                exact k_iret hx hb hr hlocks hK hN hH hw dX12_act_137
          · replace hw := hw.1 hc18
            refine lv_aload_n hx hb dX12_act_95 rfl (lv_at hl 1 rfl) ?_
            refine lv_iload_n hx hb dX12_act_96 rfl (lv_at hl 4 rfl) ?_
            refine k_afti (va_runV (As := [.int a3]) (rest := []) ⟨hx, hb, hml, hown, hts⟩ (c_X12_movesIt l D kA ly n hn A a3 S16 _) (cwV 1 hts gX12_act_X12_movesIt rfl rfl rfl (by decide +kernel) ⟨(Nat.le_of_ble_eq_true rfl), (Nat.le_of_ble_eq_true rfl)⟩) ⟨k_blind, (k_recv hK hH (hn _ (by decide)) Er_0 rfl), k_pre hK hN hH hw⟩ rfl rfl hl.1 rfl (lv_room (Nat.le_of_ble_eq_true rfl)) dX12_act_97 ⟨Nat.le_refl _, Nat.le_refl _⟩) hH (fun r27 S26 H locs hw hH => ?_)
            refine lv_goto (tgt := 121) hx hb dX12_act_100 (by decide) ?_
            refine lv_istore (lv' := [(5, .int r27), (4, .int q0_21), (0, .ref (ly 0)), (1, .int a1), (2, .int a2), (3, .int a3)]) hx hb dX12_act_121 hl (by decide) rfl (fun ls hl => ?_)
            refine lv_aload_n hx hb dX12_act_123 rfl (lv_at hl 2 rfl) ?_
            refine gf_r_34 hx hb hts hiX12 hown hK hn hH lk5 dX12_act_124 ?_
            refine lv_if_eq (tgt := 135) hx hb dX12_act_127 (by decide) (fun hc28 => ?_) (fun hc28 => ?_)
            · replace hw := hw.1 hc28
              refine lv_iload hx hb dX12_act_135 (lv_at hl 0 rfl) ?_
              exact k_iret hx hb hr hlocks hK hN hH hw dX12_act_137
            · replace hw := hw.2 hc28
              refine lv_bipush (v := -15) hx hb dX12_act_130 (by decide +kernel) ?_
              refine lv_goto (tgt := 137) hx hb dX12_act_132 (by decide) ?_
              exact k_iret hx hb hr hlocks hK hN hH hw dX12_act_137
        · replace hw := hw.1 hc17
          refine lv_aload_n hx hb dX12_act_82 rfl (lv_at hl 1 rfl) ?_
          refine lv_iload_n hx hb dX12_act_83 rfl (lv_at hl 4 rfl) ?_
          refine k_afti (va_runV (As := [.int a3]) (rest := []) ⟨hx, hb, hml, hown, hts⟩ (c_X12_showsIt l D kA ly n hn A a3 S16 _) (cwV 1 hts gX12_act_X12_showsIt rfl rfl rfl (by decide +kernel) ⟨(Nat.le_of_ble_eq_true rfl), (Nat.le_of_ble_eq_true rfl)⟩) ⟨k_blind, (k_recv hK hH (hn _ (by decide)) Er_0 rfl), k_pre hK hN hH hw⟩ rfl rfl hl.1 rfl (lv_room (Nat.le_of_ble_eq_true rfl)) dX12_act_84 ⟨Nat.le_refl _, Nat.le_refl _⟩) hH (fun r30 S29 H locs hw hH => ?_)
          refine lv_goto (tgt := 121) hx hb dX12_act_87 (by decide) ?_
          refine lv_istore (lv' := [(5, .int r30), (4, .int q0_21), (0, .ref (ly 0)), (1, .int a1), (2, .int a2), (3, .int a3)]) hx hb dX12_act_121 hl (by decide) rfl (fun ls hl => ?_)
          refine lv_aload_n hx hb dX12_act_123 rfl (lv_at hl 2 rfl) ?_
          refine gf_r_34 hx hb hts hiX12 hown hK hn hH lk5 dX12_act_124 ?_
          refine lv_if_eq (tgt := 135) hx hb dX12_act_127 (by decide) (fun hc31 => ?_) (fun hc31 => ?_)
          · replace hw := hw.1 hc31
            refine lv_iload hx hb dX12_act_135 (lv_at hl 0 rfl) ?_
            exact k_iret hx hb hr hlocks hK hN hH hw dX12_act_137
          · replace hw := hw.2 hc31
            refine lv_bipush (v := -15) hx hb dX12_act_130 (by decide +kernel) ?_
            refine lv_goto (tgt := 137) hx hb dX12_act_132 (by decide) ?_
            exact k_iret hx hb hr hlocks hK hN hH hw dX12_act_137
      · replace hw := hw.1 hc9
        refine lv_iconst (v := 0) hx hb dX12_act_42 (by decide +kernel) ?_
        exact k_iret hx hb hr hlocks hK hN hH hw dX12_act_43
  refine lv_if_eq (tgt := 20) hx hb dX12_act_9 (by decide) (fun hc32 => ?_) (fun hc32 => ?_)
  · replace hw := hw.1 hc32
    refine lv_iconst (v := -1) hx hb dX12_act_20 (by decide +kernel) ?_
    exact J_21 (-1 : Int32) S2 _ _ ls hw hH (lv_sub hl [0, 1, 2, 3] rfl)
  · replace hw := hw.2 hc32
    refine lv_aload_n hx hb dX12_act_12 rfl (lv_at hl 0 rfl) ?_
    refine lv_iload_n hx hb dX12_act_13 rfl (lv_at hl 1 rfl) ?_
    refine k_afti (va_runV (As := [.int a1]) (rest := []) ⟨hx, hb, hml, hown, hts⟩ (c_X12_kindOn l D kA ly n hn A a1 S2 _) (cwV 1 hts gX12_act_X12_kindOn rfl rfl rfl (by decide +kernel) ⟨(Nat.le_of_ble_eq_true rfl), (Nat.le_of_ble_eq_true rfl)⟩) ⟨k_blind, (k_recv hK hH (hn _ (by decide)) Er_0 rfl), k_pre hK hN hH hw⟩ rfl rfl hl.1 rfl (lv_room (Nat.le_of_ble_eq_true rfl)) dX12_act_14 ⟨Nat.le_refl _, Nat.le_refl _⟩) hH (fun r34 S33 H locs hw hH => ?_)
    refine lv_goto (tgt := 21) hx hb dX12_act_17 (by decide) ?_
    exact J_21 r34 S33 _ _ ls hw hH (lv_sub hl [0, 1, 2, 3] rfl)
def wp_X12_trace (a1 : Int32) (S : St) (Q : Int32 → St → Prop) : Prop := wp_X12_in a1 (0 : Int32) ((gI S 0 33) - (1 : Int32)) S (fun r2 S1 => ((r2 = 0 → Q (-3 : Int32) S1) ∧ (¬ r2 = 0 → (vp_in a1 30 ∧ Q (gA S1 17 a1.toNatClampNeg) S1))))
set_option maxHeartbeats 4000000 in
set_option maxRecDepth 100000 in
theorem c_X12_trace (l : Launch) (D : va_G) (kA : Nat → ClassId) (ly : Nat → Nat) (n : List Nat) (hn : ∀ c, c < 20 → c ∈ n) (A : Nat → Prop) (a1 : Int32) : Ci l yX12_trace wsX12_trace 1 22 (Gp D (Er kA ly) ly n A kA) A [.ref (ly 0), .int a1] (wp_X12_trace a1) := by
  intro S Q
  refine Met.ofW (cc := cX12_trace) (maxL := 2) (ret := (some .int)) (by decide) rfl ?_
  intro p e s m args below meth c s₁ B hml hv
  obtain ⟨rfl, ⟨hP, hD, hK, hN⟩, hw⟩ := hv
  have hx := B.exec
  have hb := B.bytes
  have hr := B.returns
  have hts := atoms_spec (ws := wsX12_trace) B.pre
  have hown : s.vm.findClass RX12 = some m.cls := findClass_of_methodNamed B.named
  have hlocks := B.notSynchronized
  have hH : Hp D (Er kA ly) ly n A s.heap S s.heap [] := ⟨hP, hD, va_S.rf⟩
  have hiX12 : ∀ w ∈ u_ws RX12 TX12 39, w ∈ wsX12_trace := by decide +kernel
  have lk0 := hts (.fieldLink RX12 288 "SlowPanesModel" "bodies" "I") (by decide +kernel)
  have lk1 := hts (.fieldLink RX12 63 "SlowPanesModel" "traced" "[I") (by decide +kernel)
  have hl := lv_entry ([.ref (ly 0), .int a1]) (n := 2) (Nat.le_of_ble_eq_true rfl)
  rw [lg_entry_eq]
  generalize (lg_sl ([.ref (ly 0), .int a1]) ++ List.replicate (2 - (lg_sl ([.ref (ly 0), .int a1])).length) Slot.unset).toArray = ls at hl ⊢
  have hl : lv_has ls 2 [(0, .ref (ly 0)), (1, .int a1)] := hl
  rw [wp_X12_trace] at hw
  refine lv_iload_n hx hb dX12_trace_0 rfl (lv_at hl 1 rfl) ?_
  refine lv_iconst (v := 0) hx hb dX12_trace_1 (by decide +kernel) ?_
  refine lv_aload_n hx hb dX12_trace_2 rfl (lv_at hl 0 rfl) ?_
  refine gf_r_33 hx hb hts hiX12 hown hK hn hH lk0 dX12_trace_3 ?_
  refine lv_iconst (v := 1) hx hb dX12_trace_6 (by decide +kernel) ?_
  refine lv_isub hx hb dX12_trace_7 ?_
  refine k_afti (va_runS (As := [.int a1, .int (0 : Int32), .int ((gI S 0 33) - (1 : Int32))]) (rest := []) ⟨hx, hb, hml, hown, hts⟩ (c_X12_in l D kA ly n hn A a1 (0 : Int32) ((gI S 0 33) - (1 : Int32)) S _) (va_cwS 3 hts gX12_trace_X12_in rfl rfl rfl (by decide +kernel) ⟨(Nat.le_of_ble_eq_true rfl), (Nat.le_of_ble_eq_true rfl)⟩) ⟨k_blind, k_pre hK hN hH hw⟩ rfl rfl hl.1 rfl (lv_room (Nat.le_of_ble_eq_true rfl)) dX12_trace_8 ⟨Nat.le_refl _, Nat.le_refl _⟩) hH (fun r2 S1 H locs hw hH => ?_)
  refine lv_if_eq (tgt := 23) hx hb dX12_trace_11 (by decide) (fun hc3 => ?_) (fun hc3 => ?_)
  · replace hw := hw.1 hc3
    refine lv_bipush (v := -3) hx hb dX12_trace_23 (by decide +kernel) ?_
    exact k_iret hx hb hr hlocks hK hN hH hw dX12_trace_25
  · replace hw := hw.2 hc3
    refine lv_aload_n hx hb dX12_trace_14 rfl (lv_at hl 0 rfl) ?_
    refine gf_r_32 hx hb hts hiX12 hown hK hn hH lk1 dX12_trace_15 ?_
    refine lv_iload_n hx hb dX12_trace_18 rfl (lv_at hl 1 rfl) ?_
    obtain ⟨hi_4, hw⟩ := hw
    refine k_ild hx hb hK hH (hn _ (by decide)) Er_17 hi_4 dX12_trace_19 ?_
    refine lv_goto (tgt := 25) hx hb dX12_trace_20 (by decide) ?_
    exact k_iret hx hb hr hlocks hK hN hH hw dX12_trace_25
def wl_X12_many_58 (v3_45 : Int32) (K_58 : Int32 → Int32 → St → Prop) : Nat → Int32 → Int32 → St → Prop
  | 0, _, _, _ => False
  | fu_58 + 1, v2_58, v4_58, S_58 => wp_X12_its v3_45 (1 : Int32) S_58 (fun r7 S6 => ((r7 ≤ v4_58 → K_58 v2_58 v4_58 S6) ∧ (¬ r7 ≤ v4_58 → wp_X12_its v3_45 ((3 : Int32) + v4_58) S6 (fun r10 S9 => ((0 ≤ r10 → (∀ t12 : Int32, t12 = (v2_58 + (1 : Int32)) → (∀ t13 : Int32, t13 = v4_58 + 1 → wl_X12_many_58 v3_45 K_58 fu_58 t12 t13 S9))) ∧ (¬ 0 ≤ r10 → (∀ t14 : Int32, t14 = (v2_58 + (0 : Int32)) → (∀ t15 : Int32, t15 = v4_58 + 1 → wl_X12_many_58 v3_45 K_58 fu_58 t14 t15 S9))))))))
def wl_X12_many_45  (K_45 : Int32 → Int32 → St → Prop) : Nat → Int32 → Int32 → St → Prop
  | 0, _, _, _ => False
  | fu_45 + 1, v2_45, v3_45, S_45 => (vp_in (1 : Int32) 232 ∧ (((gA S_45 3 (1 : Int32).toNatClampNeg) ≤ v3_45 → K_45 v2_45 v3_45 S_45) ∧ (¬ (gA S_45 3 (1 : Int32).toNatClampNeg) ≤ v3_45 → (∃ m_58 : Nat, wl_X12_many_58 v3_45 (fun e2_16 e4_17 S18 => (∀ t19 : Int32, t19 = v3_45 + 1 → wl_X12_many_45 K_45 fu_45 e2_16 t19 S18)) m_58 v2_45 (0 : Int32) S_45))))
def wp_X12_many (a1 : Int32) (S : St) (Q : Int32 → St → Prop) : Prop := ((a1 = 0 → (vp_in (1 : Int32) 232 ∧ Q (gA S 3 (1 : Int32).toNatClampNeg) S)) ∧ (¬ a1 = 0 → ((a1 = 1 → (∃ m_45 : Nat, wl_X12_many_45 (fun e2_20 e3_21 S22 => Q e2_20 S22) m_45 (0 : Int32) (0 : Int32) S)) ∧ (¬ a1 = 1 → ((a1 = 2 → Q (gI S 0 21) S) ∧ (¬ a1 = 2 → ((a1 = 3 → Q (gI S 0 6) S) ∧ (¬ a1 = 3 → ((a1 = 4 → Q (gI S 0 33) S) ∧ (¬ a1 = 4 → Q (-1 : Int32) S))))))))))
set_option maxHeartbeats 4000000 in
set_option maxRecDepth 100000 in
theorem c_X12_many (l : Launch) (D : va_G) (kA : Nat → ClassId) (ly : Nat → Nat) (n : List Nat) (hn : ∀ c, c < 20 → c ∈ n) (A : Nat → Prop) (a1 : Int32) : Ci l yX12_many wsX12_many 1 22 (Gp D (Er kA ly) ly n A kA) A [.ref (ly 0), .int a1] (wp_X12_many a1) := by
  intro S Q
  refine Met.ofW (cc := cX12_many) (maxL := 5) (ret := (some .int)) (by decide) rfl ?_
  intro p e s m args below meth c s₁ B hml hv
  obtain ⟨rfl, ⟨hP, hD, hK, hN⟩, hw⟩ := hv
  have hx := B.exec
  have hb := B.bytes
  have hr := B.returns
  have hts := atoms_spec (ws := wsX12_many) B.pre
  have hown : s.vm.findClass RX12 = some m.cls := findClass_of_methodNamed B.named
  have hlocks := B.notSynchronized
  have hH : Hp D (Er kA ly) ly n A s.heap S s.heap [] := ⟨hP, hD, va_S.rf⟩
  have hiX12 : ∀ w ∈ u_ws RX12 TX12 39, w ∈ wsX12_many := by decide +kernel
  have lk0 := hts (.fieldLink RX12 16 "SlowPanesModel" "row" "[I") (by decide +kernel)
  have lk1 := hts (.fieldLink RX12 191 "SlowPanesModel" "rowMany" "I") (by decide +kernel)
  have lk2 := hts (.fieldLink RX12 79 "SlowPanesModel" "tapeMany" "I") (by decide +kernel)
  have lk3 := hts (.fieldLink RX12 288 "SlowPanesModel" "bodies" "I") (by decide +kernel)
  have hl := lv_entry ([.ref (ly 0), .int a1]) (n := 5) (Nat.le_of_ble_eq_true rfl)
  rw [lg_entry_eq]
  generalize (lg_sl ([.ref (ly 0), .int a1]) ++ List.replicate (5 - (lg_sl ([.ref (ly 0), .int a1])).length) Slot.unset).toArray = ls at hl ⊢
  have hl : lv_has ls 5 [(0, .ref (ly 0)), (1, .int a1)] := hl
  rw [wp_X12_many] at hw
  refine lv_iconst (v := 0) hx hb dX12_many_0 (by decide +kernel) ?_
  refine lv_istore_n (lv' := [(2, .int (0 : Int32)), (0, .ref (ly 0)), (1, .int a1)]) hx hb dX12_many_1 rfl hl (by decide) rfl (fun ls hl => ?_)
  refine lv_iload_n hx hb dX12_many_2 rfl (lv_at hl 2 rfl) ?_
  by_cases hc1 : a1 = 0
  · replace hw := hw.1 hc1
    refine lv_tableIn (tgt := 36) hx hb dX12_many_3 (by rw [hc1]; first | done | decide) (by rw [hc1]; first | done | decide) (by rw [hc1]; first | done | rfl) (by decide) ?_
    refine lv_aload_n hx hb dX12_many_36 rfl (lv_at hl 1 rfl) ?_
    refine gf_r_2 hx hb hts hiX12 hown hK hn hH lk0 dX12_many_37 ?_
    refine lv_iconst (v := 1) hx hb dX12_many_40 (by decide +kernel) ?_
    obtain ⟨hi_2, hw⟩ := hw
    refine k_ild hx hb hK hH (hn _ (by decide)) Er_3 hi_2 dX12_many_41 ?_
    exact k_iret hx hb hr hlocks hK hN hH hw dX12_many_42
  · replace hw := hw.2 hc1
    by_cases hc3 : a1 = 1
    · replace hw := hw.1 hc3
      refine lv_tableIn (tgt := 43) hx hb dX12_many_3 (by rw [hc3]; first | done | decide) (by rw [hc3]; first | done | decide) (by rw [hc3]; first | done | rfl) (by decide) ?_
      refine lv_iconst (v := 0) hx hb dX12_many_43 (by decide +kernel) ?_
      refine lv_istore_n (lv' := [(3, .int (0 : Int32)), (2, .int (0 : Int32)), (0, .ref (ly 0)), (1, .int a1)]) hx hb dX12_many_44 rfl hl (by decide) rfl (fun ls hl => ?_)
      have L_45 : ∀ (K_45 : Int32 → Int32 → St → Prop) (hk_45 : ∀ (v2_45 : Int32) (v3_45 : Int32) (S_45 : St) (H : Heap) (locs : List Loc) (ls : Array Slot), K_45 v2_45 v3_45 S_45 → Hp D (Er kA ly) ly n A s.heap S_45 H locs → lv_has ls 5 [(0, .ref (ly 0)), (1, .int a1), (2, .int v2_45), (3, .int v3_45)] → W p l e (headSpec wsX12_many { frames := 1, cells := 0, slots := 0, locals := 22 }).room s m [.ref (ly 0), .int a1].toArray below meth c H locs 0 0 (MQ below (va_Qi Q (Gp D (Er kA ly) ly n A kA) A) [.ref (ly 0), .int a1].toArray s 0 0 A) (F0 m 101 ls [])) (fu_45 : Nat) (v2_45 : Int32) (v3_45 : Int32) (S_45 : St) (H : Heap) (locs : List Loc) (ls : Array Slot), wl_X12_many_45 K_45 fu_45 v2_45 v3_45 S_45 → Hp D (Er kA ly) ly n A s.heap S_45 H locs → lv_has ls 5 [(0, .ref (ly 0)), (1, .int a1), (2, .int v2_45), (3, .int v3_45)] → W p l e (headSpec wsX12_many { frames := 1, cells := 0, slots := 0, locals := 22 }).room s m [.ref (ly 0), .int a1].toArray below meth c H locs 0 0 (MQ below (va_Qi Q (Gp D (Er kA ly) ly n A kA) A) [.ref (ly 0), .int a1].toArray s 0 0 A) (F0 m 45 ls []) := by
        intro K_45 hk_45 fu_45
        induction fu_45 with
        | zero => intro v2_45 v3_45 S_45 H locs ls hw hH hl; rw [wl_X12_many_45] at hw; exact hw.elim
        | succ fu_45 ih_45 =>
          intro v2_45 v3_45 S_45 H locs ls hw hH hl
          rw [wl_X12_many_45] at hw
          refine lv_iload_n hx hb dX12_many_45 rfl (lv_at hl 3 rfl) ?_
          refine lv_aload_n hx hb dX12_many_46 rfl (lv_at hl 0 rfl) ?_
          refine gf_r_2 hx hb hts hiX12 hown hK hn hH lk0 dX12_many_47 ?_
          refine lv_iconst (v := 1) hx hb dX12_many_50 (by decide +kernel) ?_
          obtain ⟨hi_4, hw⟩ := hw
          refine k_ild hx hb hK hH (hn _ (by decide)) Er_3 hi_4 dX12_many_51 ?_
          refine lv_icmp_ge (tgt := 101) hx hb dX12_many_52 (by decide) (fun hc5 => ?_) (fun hc5 => ?_)
          · replace hw := hw.1 hc5
            exact hk_45 v2_45 v3_45 S_45 _ _ ls hw hH (lv_sub hl [0, 1, 2, 3] rfl)
          · replace hw := hw.2 hc5
            refine lv_iconst (v := 0) hx hb dX12_many_55 (by decide +kernel) ?_
            refine lv_istore (lv' := [(4, .int (0 : Int32)), (0, .ref (ly 0)), (1, .int a1), (2, .int v2_45), (3, .int v3_45)]) hx hb dX12_many_56 hl (by decide) rfl (fun ls hl => ?_)
            have L_58 : ∀ (K_58 : Int32 → Int32 → St → Prop) (hk_58 : ∀ (v2_58 : Int32) (v4_58 : Int32) (S_58 : St) (H : Heap) (locs : List Loc) (ls : Array Slot), K_58 v2_58 v4_58 S_58 → Hp D (Er kA ly) ly n A s.heap S_58 H locs → lv_has ls 5 [(0, .ref (ly 0)), (1, .int a1), (2, .int v2_58), (3, .int v3_45), (4, .int v4_58)] → W p l e (headSpec wsX12_many { frames := 1, cells := 0, slots := 0, locals := 22 }).room s m [.ref (ly 0), .int a1].toArray below meth c H locs 0 0 (MQ below (va_Qi Q (Gp D (Er kA ly) ly n A kA) A) [.ref (ly 0), .int a1].toArray s 0 0 A) (F0 m 95 ls [])) (fu_58 : Nat) (v2_58 : Int32) (v4_58 : Int32) (S_58 : St) (H : Heap) (locs : List Loc) (ls : Array Slot), wl_X12_many_58 v3_45 K_58 fu_58 v2_58 v4_58 S_58 → Hp D (Er kA ly) ly n A s.heap S_58 H locs → lv_has ls 5 [(0, .ref (ly 0)), (1, .int a1), (2, .int v2_58), (3, .int v3_45), (4, .int v4_58)] → W p l e (headSpec wsX12_many { frames := 1, cells := 0, slots := 0, locals := 22 }).room s m [.ref (ly 0), .int a1].toArray below meth c H locs 0 0 (MQ below (va_Qi Q (Gp D (Er kA ly) ly n A kA) A) [.ref (ly 0), .int a1].toArray s 0 0 A) (F0 m 58 ls []) := by
              intro K_58 hk_58 fu_58
              induction fu_58 with
              | zero => intro v2_58 v4_58 S_58 H locs ls hw hH hl; rw [wl_X12_many_58] at hw; exact hw.elim
              | succ fu_58 ih_58 =>
                intro v2_58 v4_58 S_58 H locs ls hw hH hl
                rw [wl_X12_many_58] at hw
                refine lv_iload hx hb dX12_many_58 (lv_at hl 4 rfl) ?_
                refine lv_aload_n hx hb dX12_many_60 rfl (lv_at hl 0 rfl) ?_
                refine lv_iload_n hx hb dX12_many_61 rfl (lv_at hl 3 rfl) ?_
                refine lv_iconst (v := 1) hx hb dX12_many_62 (by decide +kernel) ?_
                refine k_afti (va_runV (As := [.int v3_45, .int (1 : Int32)]) (rest := [.int v4_58]) ⟨hx, hb, hml, hown, hts⟩ (c_X12_its l D kA ly n hn A v3_45 (1 : Int32) S_58 _) (cwV 2 hts gX12_many_X12_its rfl rfl rfl (by decide +kernel) ⟨(Nat.le_of_ble_eq_true rfl), (Nat.le_of_ble_eq_true rfl)⟩) ⟨k_blind, (k_recv hK hH (hn _ (by decide)) Er_0 rfl), k_pre hK hN hH hw⟩ rfl rfl hl.1 rfl (lv_room (Nat.le_of_ble_eq_true rfl)) dX12_many_63 ⟨Nat.le_refl _, Nat.le_refl _⟩) hH (fun r7 S6 H locs hw hH => ?_)
                refine lv_icmp_ge (tgt := 95) hx hb dX12_many_66 (by decide) (fun hc8 => ?_) (fun hc8 => ?_)
                · replace hw := hw.1 hc8
                  exact hk_58 v2_58 v4_58 S6 _ _ ls hw hH (lv_sub hl [0, 1, 2, 3, 4] rfl)
                · replace hw := hw.2 hc8
                  refine lv_iload_n hx hb dX12_many_69 rfl (lv_at hl 2 rfl) ?_
                  refine lv_aload_n hx hb dX12_many_70 rfl (lv_at hl 0 rfl) ?_
                  refine lv_iload_n hx hb dX12_many_71 rfl (lv_at hl 3 rfl) ?_
                  refine lv_iconst (v := 3) hx hb dX12_many_72 (by decide +kernel) ?_
                  refine lv_iload hx hb dX12_many_73 (lv_at hl 4 rfl) ?_
                  refine lv_iadd hx hb dX12_many_75 ?_
                  refine k_afti (va_runV (As := [.int v3_45, .int ((3 : Int32) + v4_58)]) (rest := [.int v2_58]) ⟨hx, hb, hml, hown, hts⟩ (c_X12_its l D kA ly n hn A v3_45 ((3 : Int32) + v4_58) S6 _) (cwV 2 hts gX12_many_X12_its rfl rfl rfl (by decide +kernel) ⟨(Nat.le_of_ble_eq_true rfl), (Nat.le_of_ble_eq_true rfl)⟩) ⟨k_blind, (k_recv hK hH (hn _ (by decide)) Er_0 rfl), k_pre hK hN hH hw⟩ rfl rfl hl.1 rfl (lv_room (Nat.le_of_ble_eq_true rfl)) dX12_many_76 ⟨Nat.le_refl _, Nat.le_refl _⟩) hH (fun r10 S9 H locs hw hH => ?_)
                  refine lv_if_ge (tgt := 86) hx hb dX12_many_79 (by decide) (fun hc11 => ?_) (fun hc11 => ?_)
                  · replace hw := hw.1 hc11
                    refine lv_iconst (v := 1) hx hb dX12_many_86 (by decide +kernel) ?_
                    refine lv_iadd hx hb dX12_many_87 ?_
                    refine lv_topi (fun t12 et12 => ?_)
                    replace hw := hw t12 et12
                    refine lv_istore_n (lv' := [(2, .int t12), (0, .ref (ly 0)), (1, .int a1), (3, .int v3_45), (4, .int v4_58)]) hx hb dX12_many_88 rfl hl (by decide) rfl (fun ls hl => ?_)
                    obtain ⟨t13, et13⟩ : ∃ y : Int32, y = v4_58 + 1 := ⟨_, rfl⟩
                    replace hw := hw t13 et13
                    refine lv_iinc (v := t13) (lv' := [(4, .int t13), (2, .int t12), (0, .ref (ly 0)), (1, .int a1), (3, .int v3_45)]) hx hb dX12_many_89 hl (k := 4) rfl (by rw [et13]; rfl) (by decide) rfl (fun ls hl => ?_)
                    refine lv_goto (tgt := 58) hx hb dX12_many_92 (by decide) ?_
                    exact ih_58 t12 t13 S9 _ _ ls hw hH (lv_sub hl [2, 3, 1, 4, 0] rfl)
                  · replace hw := hw.2 hc11
                    refine lv_iconst (v := 0) hx hb dX12_many_82 (by decide +kernel) ?_
                    refine lv_goto (tgt := 87) hx hb dX12_many_83 (by decide) ?_
                    refine lv_iadd hx hb dX12_many_87 ?_
                    refine lv_topi (fun t14 et14 => ?_)
                    replace hw := hw t14 et14
                    refine lv_istore_n (lv' := [(2, .int t14), (0, .ref (ly 0)), (1, .int a1), (3, .int v3_45), (4, .int v4_58)]) hx hb dX12_many_88 rfl hl (by decide) rfl (fun ls hl => ?_)
                    obtain ⟨t15, et15⟩ : ∃ y : Int32, y = v4_58 + 1 := ⟨_, rfl⟩
                    replace hw := hw t15 et15
                    refine lv_iinc (v := t15) (lv' := [(4, .int t15), (2, .int t14), (0, .ref (ly 0)), (1, .int a1), (3, .int v3_45)]) hx hb dX12_many_89 hl (k := 4) rfl (by rw [et15]; rfl) (by decide) rfl (fun ls hl => ?_)
                    refine lv_goto (tgt := 58) hx hb dX12_many_92 (by decide) ?_
                    exact ih_58 t14 t15 S9 _ _ ls hw hH (lv_sub hl [2, 3, 1, 4, 0] rfl)
            obtain ⟨m_58, hw⟩ := hw
            refine L_58 _ (fun e2_16 e4_17 S18 H locs ls hw hH hl => ?_) m_58 v2_45 (0 : Int32) S_45 _ _ ls hw hH (lv_sub hl [1, 2, 3, 4, 0] rfl)
            obtain ⟨t19, et19⟩ : ∃ y : Int32, y = v3_45 + 1 := ⟨_, rfl⟩
            replace hw := hw t19 et19
            refine lv_iinc (v := t19) (lv' := [(3, .int t19), (0, .ref (ly 0)), (1, .int a1), (2, .int e2_16), (4, .int e4_17)]) hx hb dX12_many_95 hl (k := 3) rfl (by rw [et19]; rfl) (by decide) rfl (fun ls hl => ?_)
            refine lv_goto (tgt := 45) hx hb dX12_many_98 (by decide) ?_
            exact ih_45 e2_16 t19 S18 _ _ ls hw hH (lv_sub hl [1, 2, 3, 0] rfl)
      obtain ⟨m_45, hw⟩ := hw
      refine L_45 _ (fun e2_20 e3_21 S22 H locs ls hw hH hl => ?_) m_45 (0 : Int32) (0 : Int32) S _ _ ls hw hH (lv_sub hl [2, 3, 1, 0] rfl)
      refine lv_iload_n hx hb dX12_many_101 rfl (lv_at hl 2 rfl) ?_
      exact k_iret hx hb hr hlocks hK hN hH hw dX12_many_102
    · replace hw := hw.2 hc3
      by_cases hc23 : a1 = 2
      · replace hw := hw.1 hc23
        refine lv_tableIn (tgt := 103) hx hb dX12_many_3 (by rw [hc23]; first | done | decide) (by rw [hc23]; first | done | decide) (by rw [hc23]; first | done | rfl) (by decide) ?_
        refine lv_aload_n hx hb dX12_many_103 rfl (lv_at hl 1 rfl) ?_
        refine gf_r_21 hx hb hts hiX12 hown hK hn hH lk1 dX12_many_104 ?_
        exact k_iret hx hb hr hlocks hK hN hH hw dX12_many_107
      · replace hw := hw.2 hc23
        by_cases hc24 : a1 = 3
        · replace hw := hw.1 hc24
          refine lv_tableIn (tgt := 108) hx hb dX12_many_3 (by rw [hc24]; first | done | decide) (by rw [hc24]; first | done | decide) (by rw [hc24]; first | done | rfl) (by decide) ?_
          refine lv_aload_n hx hb dX12_many_108 rfl (lv_at hl 1 rfl) ?_
          refine gf_r_6 hx hb hts hiX12 hown hK hn hH lk2 dX12_many_109 ?_
          exact k_iret hx hb hr hlocks hK hN hH hw dX12_many_112
        · replace hw := hw.2 hc24
          by_cases hc25 : a1 = 4
          · replace hw := hw.1 hc25
            refine lv_tableIn (tgt := 113) hx hb dX12_many_3 (by rw [hc25]; first | done | decide) (by rw [hc25]; first | done | decide) (by rw [hc25]; first | done | rfl) (by decide) ?_
            refine lv_aload_n hx hb dX12_many_113 rfl (lv_at hl 1 rfl) ?_
            refine gf_r_33 hx hb hts hiX12 hown hK hn hH lk3 dX12_many_114 ?_
            exact k_iret hx hb hr hlocks hK hN hH hw dX12_many_117
          · replace hw := hw.2 hc25
            refine lv_tableOut (tgt := 118) hx hb dX12_many_3 (tb_out5_0 hc1 hc3 hc23 hc24 hc25) (by decide) ?_
            refine lv_iconst (v := -1) hx hb dX12_many_118 (by decide +kernel) ?_
            exact k_iret hx hb hr hlocks hK hN hH hw dX12_many_119
def wl_X12_moveRow_3 (a1 : Nat) (a2 : Int32) (a3 : Int32) (K_3 : Int32 → St → Prop) : Nat → Int32 → St → Prop
  | 0, _, _ => False
  | fu_3 + 1, v4_3, S_3 => ((a2 ≤ v4_3 → K_3 v4_3 S_3) ∧ (¬ a2 ≤ v4_3 → ((a3 = 0 → (vp_in (gI S_3 0 37) 330 ∧ (vp_in v4_3 (lenR a1) ∧ ∀ S5 : St, S5 = sA S_3 a1 v4_3.toNatClampNeg (gA S_3 18 (gI S_3 0 37).toNatClampNeg) → (∀ S6 : St, S6 = sI S5 0 37 ((gI S5 0 37) + (1 : Int32)) → (∀ t7 : Int32, t7 = v4_3 + 1 → wl_X12_moveRow_3 a1 a2 a3 K_3 fu_3 t7 S6))))) ∧ (¬ a3 = 0 → (vp_in v4_3 (lenR a1) ∧ (vp_in (gI S_3 0 37) 330 ∧ ∀ S10 : St, S10 = sA S_3 18 (gI S_3 0 37).toNatClampNeg (gA S_3 a1 v4_3.toNatClampNeg) → (∀ S11 : St, S11 = sI S10 0 37 ((gI S10 0 37) + (1 : Int32)) → (∀ t12 : Int32, t12 = v4_3 + 1 → wl_X12_moveRow_3 a1 a2 a3 K_3 fu_3 t12 S11))))))))
def wp_X12_moveRow (a1 : Nat) (a2 : Int32) (a3 : Int32) (S : St) (Q : St → Prop) : Prop := (isRI a1 ∧ (∃ m_3 : Nat, wl_X12_moveRow_3 a1 a2 a3 (fun e4_13 S14 => Q S14) m_3 (0 : Int32) S))
set_option maxHeartbeats 4000000 in
set_option maxRecDepth 100000 in
theorem c_X12_moveRow (l : Launch) (D : va_G) (kA : Nat → ClassId) (ly : Nat → Nat) (n : List Nat) (hn : ∀ c, c < 20 → c ∈ n) (A : Nat → Prop) (a1 : Nat) (a2 : Int32) (a3 : Int32) : Cv l yX12_moveRow wsX12_moveRow 0 0 (Gp D (Er kA ly) ly n A kA) A [.ref (ly 0), .ref (ly a1), .int a2, .int a3] (wp_X12_moveRow a1 a2 a3) := by
  intro S Q
  refine Met.ofW (cc := cX12_moveRow) (maxL := 5) (ret := none) (by decide) rfl ?_
  intro p e s m args below meth c s₁ B hml hv
  obtain ⟨rfl, ⟨hP, hD, hK, hN⟩, hw⟩ := hv
  have hx := B.exec
  have hb := B.bytes
  have hr := B.returns
  have hts := atoms_spec (ws := wsX12_moveRow) B.pre
  have hown : s.vm.findClass RX12 = some m.cls := findClass_of_methodNamed B.named
  have hlocks := B.notSynchronized
  have hH : Hp D (Er kA ly) ly n A s.heap S s.heap [] := ⟨hP, hD, va_S.rf⟩
  have hiX12 : ∀ w ∈ u_ws RX12 TX12 39, w ∈ wsX12_moveRow := by decide +kernel
  have lk0 := hts (.fieldLink RX12 66 "SlowPanesModel" "keptRow" "[I") (by decide +kernel)
  have lk1 := hts (.fieldLink RX12 333 "SlowPanesModel" "movedTo" "I") (by decide +kernel)
  have hl := lv_entry ([.ref (ly 0), .ref (ly a1), .int a2, .int a3]) (n := 5) (Nat.le_of_ble_eq_true rfl)
  rw [lg_entry_eq]
  generalize (lg_sl ([.ref (ly 0), .ref (ly a1), .int a2, .int a3]) ++ List.replicate (5 - (lg_sl ([.ref (ly 0), .ref (ly a1), .int a2, .int a3])).length) Slot.unset).toArray = ls at hl ⊢
  have hl : lv_has ls 5 [(0, .ref (ly 0)), (1, .ref (ly a1)), (2, .int a2), (3, .int a3)] := hl
  rw [wp_X12_moveRow] at hw
  obtain ⟨ha1, hw⟩ := hw
  refine lv_iconst (v := 0) hx hb dX12_moveRow_0 (by decide +kernel) ?_
  refine lv_istore (lv' := [(4, .int (0 : Int32)), (0, .ref (ly 0)), (1, .ref (ly a1)), (2, .int a2), (3, .int a3)]) hx hb dX12_moveRow_1 hl (by decide) rfl (fun ls hl => ?_)
  have L_3 : ∀ (K_3 : Int32 → St → Prop) (hk_3 : ∀ (v4_3 : Int32) (S_3 : St) (H : Heap) (locs : List Loc) (ls : Array Slot), K_3 v4_3 S_3 → Hp D (Er kA ly) ly n A s.heap S_3 H locs → lv_has ls 5 [(0, .ref (ly 0)), (1, .ref (ly a1)), (2, .int a2), (3, .int a3), (4, .int v4_3)] → W p l e (headSpec wsX12_moveRow { frames := 0, cells := 0, slots := 0, locals := 0 }).room s m [.ref (ly 0), .ref (ly a1), .int a2, .int a3].toArray below meth c H locs 0 0 (MQ below (va_Qv Q (Gp D (Er kA ly) ly n A kA) A) [.ref (ly 0), .ref (ly a1), .int a2, .int a3].toArray s 0 0 A) (F0 m 58 ls [])) (fu_3 : Nat) (v4_3 : Int32) (S_3 : St) (H : Heap) (locs : List Loc) (ls : Array Slot), wl_X12_moveRow_3 a1 a2 a3 K_3 fu_3 v4_3 S_3 → Hp D (Er kA ly) ly n A s.heap S_3 H locs → lv_has ls 5 [(0, .ref (ly 0)), (1, .ref (ly a1)), (2, .int a2), (3, .int a3), (4, .int v4_3)] → W p l e (headSpec wsX12_moveRow { frames := 0, cells := 0, slots := 0, locals := 0 }).room s m [.ref (ly 0), .ref (ly a1), .int a2, .int a3].toArray below meth c H locs 0 0 (MQ below (va_Qv Q (Gp D (Er kA ly) ly n A kA) A) [.ref (ly 0), .ref (ly a1), .int a2, .int a3].toArray s 0 0 A) (F0 m 3 ls []) := by
    intro K_3 hk_3 fu_3
    induction fu_3 with
    | zero => intro v4_3 S_3 H locs ls hw hH hl; rw [wl_X12_moveRow_3] at hw; exact hw.elim
    | succ fu_3 ih_3 =>
      intro v4_3 S_3 H locs ls hw hH hl
      rw [wl_X12_moveRow_3] at hw
      refine lv_iload hx hb dX12_moveRow_3 (lv_at hl 4 rfl) ?_
      refine lv_iload_n hx hb dX12_moveRow_5 rfl (lv_at hl 2 rfl) ?_
      refine lv_icmp_ge (tgt := 58) hx hb dX12_moveRow_6 (by decide) (fun hc1 => ?_) (fun hc1 => ?_)
      · replace hw := hw.1 hc1
        exact hk_3 v4_3 S_3 _ _ ls hw hH (lv_sub hl [0, 1, 2, 3, 4] rfl)
      · replace hw := hw.2 hc1
        refine lv_iload_n hx hb dX12_moveRow_9 rfl (lv_at hl 3 rfl) ?_
        refine lv_if_eq (tgt := 29) hx hb dX12_moveRow_10 (by decide) (fun hc2 => ?_) (fun hc2 => ?_)
        · replace hw := hw.1 hc2
          refine lv_aload_n hx hb dX12_moveRow_29 rfl (lv_at hl 1 rfl) ?_
          refine lv_iload hx hb dX12_moveRow_30 (lv_at hl 4 rfl) ?_
          refine lv_aload_n hx hb dX12_moveRow_32 rfl (lv_at hl 0 rfl) ?_
          refine gf_r_36 hx hb hts hiX12 hown hK hn hH lk0 dX12_moveRow_33 ?_
          refine lv_aload_n hx hb dX12_moveRow_36 rfl (lv_at hl 0 rfl) ?_
          refine gf_r_37 hx hb hts hiX12 hown hK hn hH lk1 dX12_moveRow_37 ?_
          obtain ⟨hi_3, hw⟩ := hw
          refine k_ild hx hb hK hH (hn _ (by decide)) Er_18 hi_3 dX12_moveRow_40 ?_
          obtain ⟨hi_4, hw⟩ := hw
          refine k_ist hx hb hK hH (hn _ ha1.2.1) (fun _ => (Er_a ha1)) hi_4 dX12_moveRow_41 (fun S5 H locs eS5 hH => ?_)
          replace hw := hw S5 eS5
          refine lv_aload_n hx hb dX12_moveRow_42 rfl (lv_at hl 0 rfl) ?_
          refine lv_dup hx hb dX12_moveRow_43 rfl ?_
          refine gf_r_37 hx hb hts hiX12 hown hK hn hH lk1 dX12_moveRow_44 ?_
          refine lv_iconst (v := 1) hx hb dX12_moveRow_47 (by decide +kernel) ?_
          refine lv_iadd hx hb dX12_moveRow_48 ?_
          refine pf_r_37 hx hb hts hiX12 hown hK hn hH lk1 dX12_moveRow_49 (fun S6 H locs eS6 hH => ?_)
          replace hw := hw S6 eS6
          obtain ⟨t7, et7⟩ : ∃ y : Int32, y = v4_3 + 1 := ⟨_, rfl⟩
          replace hw := hw t7 et7
          refine lv_iinc (v := t7) (lv' := [(4, .int t7), (0, .ref (ly 0)), (1, .ref (ly a1)), (2, .int a2), (3, .int a3)]) hx hb dX12_moveRow_52 hl (k := 4) rfl (by rw [et7]; rfl) (by decide) rfl (fun ls hl => ?_)
          refine lv_goto (tgt := 3) hx hb dX12_moveRow_55 (by decide) ?_
          exact ih_3 t7 S6 _ _ ls hw hH (lv_sub hl [1, 2, 3, 4, 0] rfl)
        · replace hw := hw.2 hc2
          refine lv_aload_n hx hb dX12_moveRow_13 rfl (lv_at hl 0 rfl) ?_
          refine gf_r_36 hx hb hts hiX12 hown hK hn hH lk0 dX12_moveRow_14 ?_
          refine lv_aload_n hx hb dX12_moveRow_17 rfl (lv_at hl 0 rfl) ?_
          refine gf_r_37 hx hb hts hiX12 hown hK hn hH lk1 dX12_moveRow_18 ?_
          refine lv_aload_n hx hb dX12_moveRow_21 rfl (lv_at hl 1 rfl) ?_
          refine lv_iload hx hb dX12_moveRow_22 (lv_at hl 4 rfl) ?_
          obtain ⟨hi_8, hw⟩ := hw
          refine k_ild hx hb hK hH (hn _ ha1.2.1) (Er_a ha1) hi_8 dX12_moveRow_24 ?_
          obtain ⟨hi_9, hw⟩ := hw
          refine k_ist hx hb hK hH (hn _ (by decide)) (fun _ => Er_18) hi_9 dX12_moveRow_25 (fun S10 H locs eS10 hH => ?_)
          replace hw := hw S10 eS10
          refine lv_goto (tgt := 42) hx hb dX12_moveRow_26 (by decide) ?_
          refine lv_aload_n hx hb dX12_moveRow_42 rfl (lv_at hl 0 rfl) ?_
          refine lv_dup hx hb dX12_moveRow_43 rfl ?_
          refine gf_r_37 hx hb hts hiX12 hown hK hn hH lk1 dX12_moveRow_44 ?_
          refine lv_iconst (v := 1) hx hb dX12_moveRow_47 (by decide +kernel) ?_
          refine lv_iadd hx hb dX12_moveRow_48 ?_
          refine pf_r_37 hx hb hts hiX12 hown hK hn hH lk1 dX12_moveRow_49 (fun S11 H locs eS11 hH => ?_)
          replace hw := hw S11 eS11
          obtain ⟨t12, et12⟩ : ∃ y : Int32, y = v4_3 + 1 := ⟨_, rfl⟩
          replace hw := hw t12 et12
          refine lv_iinc (v := t12) (lv' := [(4, .int t12), (0, .ref (ly 0)), (1, .ref (ly a1)), (2, .int a2), (3, .int a3)]) hx hb dX12_moveRow_52 hl (k := 4) rfl (by rw [et12]; rfl) (by decide) rfl (fun ls hl => ?_)
          refine lv_goto (tgt := 3) hx hb dX12_moveRow_55 (by decide) ?_
          exact ih_3 t12 S11 _ _ ls hw hH (lv_sub hl [1, 2, 3, 4, 0] rfl)
  obtain ⟨m_3, hw⟩ := hw
  refine L_3 _ (fun e4_13 S14 H locs ls hw hH hl => ?_) m_3 (0 : Int32) S _ _ ls hw hH (lv_sub hl [1, 2, 3, 4, 0] rfl)
  exact k_vret hx hb hr hlocks hK hN hH hw dX12_moveRow_58
def wp_X12_moveAll (a1 : Int32) (S : St) (Q : St → Prop) : Prop := (∀ S1 : St, S1 = sI S 0 37 (0 : Int32) → (vp_in (0 : Int32) 1 ∧ ∀ S3 : St, S3 = sA S1 19 (0 : Int32).toNatClampNeg (gI S1 0 4) → wp_X12_moveRow 19 (1 : Int32) a1 S3 (fun S4 => wp_X12_moveRow 1 (200 : Int32) a1 S4 (fun S5 => wp_X12_moveRow 2 (12 : Int32) a1 S5 (fun S6 => wp_X12_moveRow 3 (116 : Int32) a1 S6 (fun S7 => Q S7))))))
set_option maxHeartbeats 4000000 in
set_option maxRecDepth 100000 in
theorem c_X12_moveAll (l : Launch) (D : va_G) (kA : Nat → ClassId) (ly : Nat → Nat) (n : List Nat) (hn : ∀ c, c < 20 → c ∈ n) (A : Nat → Prop) (a1 : Int32) : Cv l yX12_moveAll wsX12_moveAll 1 24 (Gp D (Er kA ly) ly n A kA) A [.ref (ly 0), .int a1] (wp_X12_moveAll a1) := by
  intro S Q
  refine Met.ofW (cc := cX12_moveAll) (maxL := 2) (ret := none) (by decide) rfl ?_
  intro p e s m args below meth c s₁ B hml hv
  obtain ⟨rfl, ⟨hP, hD, hK, hN⟩, hw⟩ := hv
  have hx := B.exec
  have hb := B.bytes
  have hr := B.returns
  have hts := atoms_spec (ws := wsX12_moveAll) B.pre
  have hown : s.vm.findClass RX12 = some m.cls := findClass_of_methodNamed B.named
  have hlocks := B.notSynchronized
  have hH : Hp D (Er kA ly) ly n A s.heap S s.heap [] := ⟨hP, hD, va_S.rf⟩
  have hiX12 : ∀ w ∈ u_ws RX12 TX12 39, w ∈ wsX12_moveAll := by decide +kernel
  have lk0 := hts (.fieldLink RX12 333 "SlowPanesModel" "movedTo" "I") (by decide +kernel)
  have lk1 := hts (.fieldLink RX12 69 "SlowPanesModel" "single" "[I") (by decide +kernel)
  have lk2 := hts (.fieldLink RX12 19 "SlowPanesModel" "z" "I") (by decide +kernel)
  have lk3 := hts (.fieldLink RX12 7 "SlowPanesModel" "views" "[I") (by decide +kernel)
  have lk4 := hts (.fieldLink RX12 13 "SlowPanesModel" "loves" "[I") (by decide +kernel)
  have lk5 := hts (.fieldLink RX12 16 "SlowPanesModel" "row" "[I") (by decide +kernel)
  have hl := lv_entry ([.ref (ly 0), .int a1]) (n := 2) (Nat.le_of_ble_eq_true rfl)
  rw [lg_entry_eq]
  generalize (lg_sl ([.ref (ly 0), .int a1]) ++ List.replicate (2 - (lg_sl ([.ref (ly 0), .int a1])).length) Slot.unset).toArray = ls at hl ⊢
  have hl : lv_has ls 2 [(0, .ref (ly 0)), (1, .int a1)] := hl
  rw [wp_X12_moveAll] at hw
  refine lv_aload_n hx hb dX12_moveAll_0 rfl (lv_at hl 0 rfl) ?_
  refine lv_iconst (v := 0) hx hb dX12_moveAll_1 (by decide +kernel) ?_
  refine pf_r_37 hx hb hts hiX12 hown hK hn hH lk0 dX12_moveAll_2 (fun S1 H locs eS1 hH => ?_)
  replace hw := hw S1 eS1
  refine lv_aload_n hx hb dX12_moveAll_5 rfl (lv_at hl 0 rfl) ?_
  refine gf_r_38 hx hb hts hiX12 hown hK hn hH lk1 dX12_moveAll_6 ?_
  refine lv_iconst (v := 0) hx hb dX12_moveAll_9 (by decide +kernel) ?_
  refine lv_aload_n hx hb dX12_moveAll_10 rfl (lv_at hl 0 rfl) ?_
  refine gf_r_4 hx hb hts hiX12 hown hK hn hH lk2 dX12_moveAll_11 ?_
  obtain ⟨hi_2, hw⟩ := hw
  refine k_ist hx hb hK hH (hn _ (by decide)) (fun _ => Er_19) hi_2 dX12_moveAll_14 (fun S3 H locs eS3 hH => ?_)
  replace hw := hw S3 eS3
  refine lv_aload_n hx hb dX12_moveAll_15 rfl (lv_at hl 0 rfl) ?_
  refine lv_aload_n hx hb dX12_moveAll_16 rfl (lv_at hl 0 rfl) ?_
  refine gf_r_38 hx hb hts hiX12 hown hK hn hH lk1 dX12_moveAll_17 ?_
  refine lv_iconst (v := 1) hx hb dX12_moveAll_20 (by decide +kernel) ?_
  refine lv_iload_n hx hb dX12_moveAll_21 rfl (lv_at hl 1 rfl) ?_
  refine k_aftv (va_runV (As := [.ref (ly 19), .int (1 : Int32), .int a1]) (rest := []) ⟨hx, hb, hml, hown, hts⟩ (c_X12_moveRow l D kA ly n hn A 19 (1 : Int32) a1 S3 _) (cwV 3 hts gX12_moveAll_X12_moveRow rfl rfl rfl (by decide +kernel) ⟨(Nat.le_of_ble_eq_true rfl), (Nat.le_of_ble_eq_true rfl)⟩) ⟨k_blind, (k_recv hK hH (hn _ (by decide)) Er_0 rfl), k_pre hK hN hH hw⟩ rfl rfl hl.1 rfl (lv_room (Nat.le_of_ble_eq_true rfl)) dX12_moveAll_22 ⟨Nat.le_refl _, Nat.le_refl _⟩) hH (fun S4 H locs hw hH => ?_)
  refine lv_aload_n hx hb dX12_moveAll_25 rfl (lv_at hl 0 rfl) ?_
  refine lv_aload_n hx hb dX12_moveAll_26 rfl (lv_at hl 0 rfl) ?_
  refine gf_r_0 hx hb hts hiX12 hown hK hn hH lk3 dX12_moveAll_27 ?_
  refine lv_sipush (v := 200) hx hb dX12_moveAll_30 (by decide +kernel) ?_
  refine lv_iload_n hx hb dX12_moveAll_33 rfl (lv_at hl 1 rfl) ?_
  refine k_aftv (va_runV (As := [.ref (ly 1), .int (200 : Int32), .int a1]) (rest := []) ⟨hx, hb, hml, hown, hts⟩ (c_X12_moveRow l D kA ly n hn A 1 (200 : Int32) a1 S4 _) (cwV 3 hts gX12_moveAll_X12_moveRow rfl rfl rfl (by decide +kernel) ⟨(Nat.le_of_ble_eq_true rfl), (Nat.le_of_ble_eq_true rfl)⟩) ⟨k_blind, (k_recv hK hH (hn _ (by decide)) Er_0 rfl), k_pre hK hN hH hw⟩ rfl rfl hl.1 rfl (lv_room (Nat.le_of_ble_eq_true rfl)) dX12_moveAll_34 ⟨Nat.le_refl _, Nat.le_refl _⟩) hH (fun S5 H locs hw hH => ?_)
  refine lv_aload_n hx hb dX12_moveAll_37 rfl (lv_at hl 0 rfl) ?_
  refine lv_aload_n hx hb dX12_moveAll_38 rfl (lv_at hl 0 rfl) ?_
  refine gf_r_1 hx hb hts hiX12 hown hK hn hH lk4 dX12_moveAll_39 ?_
  refine lv_bipush (v := 12) hx hb dX12_moveAll_42 (by decide +kernel) ?_
  refine lv_iload_n hx hb dX12_moveAll_44 rfl (lv_at hl 1 rfl) ?_
  refine k_aftv (va_runV (As := [.ref (ly 2), .int (12 : Int32), .int a1]) (rest := []) ⟨hx, hb, hml, hown, hts⟩ (c_X12_moveRow l D kA ly n hn A 2 (12 : Int32) a1 S5 _) (cwV 3 hts gX12_moveAll_X12_moveRow rfl rfl rfl (by decide +kernel) ⟨(Nat.le_of_ble_eq_true rfl), (Nat.le_of_ble_eq_true rfl)⟩) ⟨k_blind, (k_recv hK hH (hn _ (by decide)) Er_0 rfl), k_pre hK hN hH hw⟩ rfl rfl hl.1 rfl (lv_room (Nat.le_of_ble_eq_true rfl)) dX12_moveAll_45 ⟨Nat.le_refl _, Nat.le_refl _⟩) hH (fun S6 H locs hw hH => ?_)
  refine lv_aload_n hx hb dX12_moveAll_48 rfl (lv_at hl 0 rfl) ?_
  refine lv_aload_n hx hb dX12_moveAll_49 rfl (lv_at hl 0 rfl) ?_
  refine gf_r_2 hx hb hts hiX12 hown hK hn hH lk5 dX12_moveAll_50 ?_
  refine lv_bipush (v := 116) hx hb dX12_moveAll_53 (by decide +kernel) ?_
  refine lv_iload_n hx hb dX12_moveAll_55 rfl (lv_at hl 1 rfl) ?_
  refine k_aftv (va_runV (As := [.ref (ly 3), .int (116 : Int32), .int a1]) (rest := []) ⟨hx, hb, hml, hown, hts⟩ (c_X12_moveRow l D kA ly n hn A 3 (116 : Int32) a1 S6 _) (cwV 3 hts gX12_moveAll_X12_moveRow rfl rfl rfl (by decide +kernel) ⟨(Nat.le_of_ble_eq_true rfl), (Nat.le_of_ble_eq_true rfl)⟩) ⟨k_blind, (k_recv hK hH (hn _ (by decide)) Er_0 rfl), k_pre hK hN hH hw⟩ rfl rfl hl.1 rfl (lv_room (Nat.le_of_ble_eq_true rfl)) dX12_moveAll_56 ⟨Nat.le_refl _, Nat.le_refl _⟩) hH (fun S7 H locs hw hH => ?_)
  exact k_vret hx hb hr hlocks hK hN hH hw dX12_moveAll_59
def wp_X12_keep  (S : St) (Q : Int32 → St → Prop) : Prop := wp_X12_moveAll (1 : Int32) S (fun S1 => (∀ S2 : St, S2 = sI S1 0 35 (1 : Int32) → Q (1 : Int32) S2))
set_option maxHeartbeats 4000000 in
set_option maxRecDepth 100000 in
theorem c_X12_keep (l : Launch) (D : va_G) (kA : Nat → ClassId) (ly : Nat → Nat) (n : List Nat) (hn : ∀ c, c < 20 → c ∈ n) (A : Nat → Prop)  : Ci l yX12_keep wsX12_keep 2 45 (Gp D (Er kA ly) ly n A kA) A [.ref (ly 0)] (wp_X12_keep) := by
  intro S Q
  refine Met.ofW (cc := cX12_keep) (maxL := 1) (ret := (some .int)) (by decide) rfl ?_
  intro p e s m args below meth c s₁ B hml hv
  obtain ⟨rfl, ⟨hP, hD, hK, hN⟩, hw⟩ := hv
  have hx := B.exec
  have hb := B.bytes
  have hr := B.returns
  have hts := atoms_spec (ws := wsX12_keep) B.pre
  have hown : s.vm.findClass RX12 = some m.cls := findClass_of_methodNamed B.named
  have hlocks := B.notSynchronized
  have hH : Hp D (Er kA ly) ly n A s.heap S s.heap [] := ⟨hP, hD, va_S.rf⟩
  have hiX12 : ∀ w ∈ u_ws RX12 TX12 39, w ∈ wsX12_keep := by decide +kernel
  have lk0 := hts (.fieldLink RX12 344 "SlowPanesModel" "isKept" "Z") (by decide +kernel)
  have hl := lv_entry ([.ref (ly 0)]) (n := 1) (Nat.le_of_ble_eq_true rfl)
  rw [lg_entry_eq]
  generalize (lg_sl ([.ref (ly 0)]) ++ List.replicate (1 - (lg_sl ([.ref (ly 0)])).length) Slot.unset).toArray = ls at hl ⊢
  have hl : lv_has ls 1 [(0, .ref (ly 0))] := hl
  rw [wp_X12_keep] at hw
  refine lv_aload_n hx hb dX12_keep_0 rfl (lv_at hl 0 rfl) ?_
  refine lv_iconst (v := 1) hx hb dX12_keep_1 (by decide +kernel) ?_
  refine k_aftv (va_runV (As := [.int (1 : Int32)]) (rest := []) ⟨hx, hb, hml, hown, hts⟩ (c_X12_moveAll l D kA ly n hn A (1 : Int32) S _) (cwV 1 hts gX12_keep_X12_moveAll rfl rfl rfl (by decide +kernel) ⟨(Nat.le_of_ble_eq_true rfl), (Nat.le_of_ble_eq_true rfl)⟩) ⟨k_blind, (k_recv hK hH (hn _ (by decide)) Er_0 rfl), k_pre hK hN hH hw⟩ rfl rfl hl.1 rfl (lv_room (Nat.le_of_ble_eq_true rfl)) dX12_keep_2 ⟨Nat.le_refl _, Nat.le_refl _⟩) hH (fun S1 H locs hw hH => ?_)
  refine lv_aload_n hx hb dX12_keep_5 rfl (lv_at hl 0 rfl) ?_
  refine lv_iconst (v := 1) hx hb dX12_keep_6 (by decide +kernel) ?_
  refine pf_r_35 hx hb hts hiX12 hown hK hn hH lk0 isB_1 dX12_keep_7 (fun S2 H locs eS2 hH => ?_)
  replace hw := hw S2 eS2
  refine lv_iconst (v := 1) hx hb dX12_keep_10 (by decide +kernel) ?_
  exact k_iret hx hb hr hlocks hK hN hH hw dX12_keep_11
def wp_X12_again  (S : St) (Q : Int32 → St → Prop) : Prop := (((gI S 0 35) = 0 → Q (-3 : Int32) S) ∧ (¬ (gI S 0 35) = 0 → wp_X12_moveAll (0 : Int32) S (fun S2 => (vp_in (0 : Int32) 1 ∧ (∀ S4 : St, S4 = sI S2 0 4 (gA S2 19 (0 : Int32).toNatClampNeg) → (vp_in (1 : Int32) 232 ∧ Q (gA S4 3 (1 : Int32).toNatClampNeg) S4))))))
set_option maxHeartbeats 4000000 in
set_option maxRecDepth 100000 in
theorem c_X12_again (l : Launch) (D : va_G) (kA : Nat → ClassId) (ly : Nat → Nat) (n : List Nat) (hn : ∀ c, c < 20 → c ∈ n) (A : Nat → Prop)  : Ci l yX12_again wsX12_again 2 45 (Gp D (Er kA ly) ly n A kA) A [.ref (ly 0)] (wp_X12_again) := by
  intro S Q
  refine Met.ofW (cc := cX12_again) (maxL := 1) (ret := (some .int)) (by decide) rfl ?_
  intro p e s m args below meth c s₁ B hml hv
  obtain ⟨rfl, ⟨hP, hD, hK, hN⟩, hw⟩ := hv
  have hx := B.exec
  have hb := B.bytes
  have hr := B.returns
  have hts := atoms_spec (ws := wsX12_again) B.pre
  have hown : s.vm.findClass RX12 = some m.cls := findClass_of_methodNamed B.named
  have hlocks := B.notSynchronized
  have hH : Hp D (Er kA ly) ly n A s.heap S s.heap [] := ⟨hP, hD, va_S.rf⟩
  have hiX12 : ∀ w ∈ u_ws RX12 TX12 39, w ∈ wsX12_again := by decide +kernel
  have lk0 := hts (.fieldLink RX12 344 "SlowPanesModel" "isKept" "Z") (by decide +kernel)
  have lk1 := hts (.fieldLink RX12 69 "SlowPanesModel" "single" "[I") (by decide +kernel)
  have lk2 := hts (.fieldLink RX12 19 "SlowPanesModel" "z" "I") (by decide +kernel)
  have lk3 := hts (.fieldLink RX12 16 "SlowPanesModel" "row" "[I") (by decide +kernel)
  have hl := lv_entry ([.ref (ly 0)]) (n := 1) (Nat.le_of_ble_eq_true rfl)
  rw [lg_entry_eq]
  generalize (lg_sl ([.ref (ly 0)]) ++ List.replicate (1 - (lg_sl ([.ref (ly 0)])).length) Slot.unset).toArray = ls at hl ⊢
  have hl : lv_has ls 1 [(0, .ref (ly 0))] := hl
  rw [wp_X12_again] at hw
  refine lv_aload_n hx hb dX12_again_0 rfl (lv_at hl 0 rfl) ?_
  refine gf_r_35 hx hb hts hiX12 hown hK hn hH lk0 dX12_again_1 ?_
  refine lv_if_ne (tgt := 10) hx hb dX12_again_4 (by decide) (fun hc1 => ?_) (fun hc1 => ?_)
  · replace hw := hw.2 hc1
    refine lv_aload_n hx hb dX12_again_10 rfl (lv_at hl 0 rfl) ?_
    refine lv_iconst (v := 0) hx hb dX12_again_11 (by decide +kernel) ?_
    refine k_aftv (va_runV (As := [.int (0 : Int32)]) (rest := []) ⟨hx, hb, hml, hown, hts⟩ (c_X12_moveAll l D kA ly n hn A (0 : Int32) S _) (cwV 1 hts gX12_again_X12_moveAll rfl rfl rfl (by decide +kernel) ⟨(Nat.le_of_ble_eq_true rfl), (Nat.le_of_ble_eq_true rfl)⟩) ⟨k_blind, (k_recv hK hH (hn _ (by decide)) Er_0 rfl), k_pre hK hN hH hw⟩ rfl rfl hl.1 rfl (lv_room (Nat.le_of_ble_eq_true rfl)) dX12_again_12 ⟨Nat.le_refl _, Nat.le_refl _⟩) hH (fun S2 H locs hw hH => ?_)
    refine lv_aload_n hx hb dX12_again_15 rfl (lv_at hl 0 rfl) ?_
    refine lv_aload_n hx hb dX12_again_16 rfl (lv_at hl 0 rfl) ?_
    refine gf_r_38 hx hb hts hiX12 hown hK hn hH lk1 dX12_again_17 ?_
    refine lv_iconst (v := 0) hx hb dX12_again_20 (by decide +kernel) ?_
    obtain ⟨hi_3, hw⟩ := hw
    refine k_ild hx hb hK hH (hn _ (by decide)) Er_19 hi_3 dX12_again_21 ?_
    refine pf_r_4 hx hb hts hiX12 hown hK hn hH lk2 dX12_again_22 (fun S4 H locs eS4 hH => ?_)
    replace hw := hw S4 eS4
    refine lv_aload_n hx hb dX12_again_25 rfl (lv_at hl 0 rfl) ?_
    refine gf_r_2 hx hb hts hiX12 hown hK hn hH lk3 dX12_again_26 ?_
    refine lv_iconst (v := 1) hx hb dX12_again_29 (by decide +kernel) ?_
    obtain ⟨hi_5, hw⟩ := hw
    refine k_ild hx hb hK hH (hn _ (by decide)) Er_3 hi_5 dX12_again_30 ?_
    exact k_iret hx hb hr hlocks hK hN hH hw dX12_again_31
  · replace hw := hw.1 hc1
    refine lv_bipush (v := -3) hx hb dX12_again_7 (by decide +kernel) ?_
    exact k_iret hx hb hr hlocks hK hN hH hw dX12_again_9
