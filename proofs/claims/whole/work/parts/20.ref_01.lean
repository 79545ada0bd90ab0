def wl_X12_advance_8  (K_8 : St → Prop) : Nat → St → Prop
  | 0, _ => False
  | fu_8 + 1, S_8 => wp_X12_byteAt (gI S_8 0 8) S_8 (fun r3 S2 => ((r3 = (32 : Int32) → (∀ S5 : St, S5 = sI S2 0 8 ((gI S2 0 8) + (1 : Int32)) → wl_X12_advance_8 K_8 fu_8 S5)) ∧ (¬ r3 = (32 : Int32) → K_8 S2)))
def wl_X12_advance_126  (K_126 : St → Prop) : Nat → St → Prop
  | 0, _ => False
  | fu_126 + 1, S_126 => (((gI S_126 0 7) = (1 : Int32) → wp_X12_byteAt (gI S_126 0 9) S_126 (fun r15 S14 => wp_X12_isLetter r15 S14 (fun r17 S16 => ((r17 = 0 → K_126 S16) ∧ (¬ r17 = 0 → (((8 : Int32) ≤ ((gI S16 0 9) - (gI S16 0 8)) → (∀ S20 : St, S20 = sL S16 0 10 (-1 : Int64) → (∀ S21 : St, S21 = sI S20 0 9 ((gI S20 0 9) + (1 : Int32)) → wl_X12_advance_126 K_126 fu_126 S21))) ∧ (¬ (8 : Int32) ≤ ((gI S16 0 9) - (gI S16 0 8)) → wp_X12_byteAt (gI S16 0 9) S16 (fun r23 S22 => (∀ S24 : St, S24 = sL S22 0 10 ((((27 : Int64) * (gL S16 0 10)) + (r23.toInt64)) - (96 : Int64)) → (∀ S25 : St, S25 = sI S24 0 9 ((gI S24 0 9) + (1 : Int32)) → wl_X12_advance_126 K_126 fu_126 S25)))))))))) ∧ (¬ (gI S_126 0 7) = (1 : Int32) → K_126 S_126))
def wl_X12_advance_207  (K_207 : St → Prop) : Nat → St → Prop
  | 0, _ => False
  | fu_207 + 1, S_207 => (((gI S_207 0 7) = (2 : Int32) → wp_X12_byteAt (gI S_207 0 9) S_207 (fun r29 S28 => wp_X12_isDigit r29 S28 (fun r31 S30 => ((r31 = 0 → K_207 S30) ∧ (¬ r31 = 0 → (((2 : Int32) ≤ ((gI S30 0 9) - (gI S30 0 8)) → (∀ S34 : St, S34 = sI S30 0 11 (-1 : Int32) → (∀ S35 : St, S35 = sI S34 0 9 ((gI S34 0 9) + (1 : Int32)) → wl_X12_advance_207 K_207 fu_207 S35))) ∧ (¬ (2 : Int32) ≤ ((gI S30 0 9) - (gI S30 0 8)) → wp_X12_byteAt (gI S30 0 9) S30 (fun r37 S36 => (∀ S38 : St, S38 = sI S36 0 11 ((((10 : Int32) * (gI S30 0 11)) + r37) - (48 : Int32)) → (∀ S39 : St, S39 = sI S38 0 9 ((gI S38 0 9) + (1 : Int32)) → wl_X12_advance_207 K_207 fu_207 S39)))))))))) ∧ (¬ (gI S_207 0 7) = (2 : Int32) → K_207 S_207))
def wj_X12_advance_126 (Q : St → Prop)   (S_126 : St) : Prop := (∃ m_126 : Nat, wl_X12_advance_126 (fun S26 => (∃ m_207 : Nat, wl_X12_advance_207 (fun S40 => Q S40) m_207 S26)) m_126 S_126)
def wj_X12_advance_105 (Q : St → Prop)  (q0_105 : Int32) (S_105 : St) : Prop := (∀ S12 : St, S12 = sI S_105 0 11 q0_105 → (((gI S12 0 7) = (3 : Int32) → (∀ S42 : St, S42 = sI S12 0 9 ((gI S12 0 9) + (1 : Int32)) → wj_X12_advance_126 Q S42)) ∧ (¬ (gI S12 0 7) = (3 : Int32) → wj_X12_advance_126 Q S12)))
def wj_X12_advance_83 (r9 : Int32) (Q : St → Prop)  (q0_83 : Int32) (S_83 : St) : Prop := (∀ S10 : St, S10 = sI S_83 0 7 q0_83 → (∀ S11 : St, S11 = sL S10 0 10 (0 : Int64) → (((gI S11 0 7) = (2 : Int32) → wj_X12_advance_105 Q (0 : Int32) S11) ∧ (¬ (gI S11 0 7) = (2 : Int32) → wj_X12_advance_105 Q r9 S11))))
def wp_X12_advance  (S : St) (Q : St → Prop) : Prop := (∀ S1 : St, S1 = sI S 0 8 (gI S 0 9) → (∃ m_8 : Nat, wl_X12_advance_8 (fun S6 => (∀ S7 : St, S7 = sI S6 0 9 (gI S6 0 8) → wp_X12_byteAt (gI S7 0 8) S7 (fun r9 S8 => ((0 ≤ r9 → wp_X12_isLetter r9 S8 (fun r46 S45 => ((r46 = 0 → wp_X12_isDigit r9 S45 (fun r49 S48 => ((r49 = 0 → wj_X12_advance_83 r9 Q (3 : Int32) S48) ∧ (¬ r49 = 0 → wj_X12_advance_83 r9 Q (2 : Int32) S48)))) ∧ (¬ r46 = 0 → wj_X12_advance_83 r9 Q (1 : Int32) S45)))) ∧ (¬ 0 ≤ r9 → wj_X12_advance_83 r9 Q (0 : Int32) S8))))) m_8 S1))
set_option maxHeartbeats 4000000 in
set_option maxRecDepth 100000 in
theorem c_X12_advance (l : Launch) (D : va_G) (kA : Nat → ClassId) (ly : Nat → Nat) (n : List Nat) (hn : ∀ c, c < 20 → c ∈ n) (A : Nat → Prop)  : Cv l yX12_advance wsX12_advance 2 42 (Gp D (Er kA ly) ly n A kA) A [.ref (ly 0)] (wp_X12_advance) := by
  intro S Q
  refine Met.ofW (cc := cX12_advance) (maxL := 2) (ret := none) (by decide) rfl ?_
  intro p e s m args below meth c s₁ B hml hv
  obtain ⟨rfl, ⟨hP, hD, hK, hN⟩, hw⟩ := hv
  have hx := B.exec
  have hb := B.bytes
  have hr := B.returns
  have hts := atoms_spec (ws := wsX12_advance) B.pre
  have hown : s.vm.findClass RX12 = some m.cls := findClass_of_methodNamed B.named
  have hlocks := B.notSynchronized
  have hH : Hp D (Er kA ly) ly n A s.heap S s.heap [] := ⟨hP, hD, va_S.rf⟩
  have hiX12 : ∀ w ∈ u_ws RX12 TX12 39, w ∈ wsX12_advance := by decide +kernel
  have lk0 := hts (.fieldLink RX12 84 "SlowPanesModel" "tokenEnds" "I") (by decide +kernel)
  have lk1 := hts (.fieldLink RX12 87 "SlowPanesModel" "begins" "I") (by decide +kernel)
  have lk2 := hts (.fieldLink RX12 101 "SlowPanesModel" "sort" "I") (by decide +kernel)
  have lk3 := hts (.fieldLink RX12 104 "SlowPanesModel" "word" "J") (by decide +kernel)
  have lk4 := hts (.fieldLink RX12 108 "SlowPanesModel" "value" "I") (by decide +kernel)
  have lk5 := hts (.constantLong RX12 115 (-1)) (by decide +kernel)
  have lk6 := hts (.constantLong RX12 111 (27)) (by decide +kernel)
  have lk7 := hts (.constantLong RX12 113 (96)) (by decide +kernel)
  have hl := lv_entry ([.ref (ly 0)]) (n := 2) (Nat.le_of_ble_eq_true rfl)
  rw [lg_entry_eq]
  generalize (lg_sl ([.ref (ly 0)]) ++ List.replicate (2 - (lg_sl ([.ref (ly 0)])).length) Slot.unset).toArray = ls at hl ⊢
  have hl : lv_has ls 2 [(0, .ref (ly 0))] := hl
  rw [wp_X12_advance] at hw
  refine lv_aload_n hx hb dX12_advance_0 rfl (lv_at hl 0 rfl) ?_
  refine lv_aload_n hx hb dX12_advance_1 rfl (lv_at hl 0 rfl) ?_
  refine gf_r_9 hx hb hts hiX12 hown hK hn hH lk0 dX12_advance_2 ?_
  refine pf_r_8 hx hb hts hiX12 hown hK hn hH lk1 dX12_advance_5 (fun S1 H locs eS1 hH => ?_)
  replace hw := hw S1 eS1
  have L_8 : ∀ (K_8 : St → Prop) (hk_8 : ∀  (S_8 : St) (H : Heap) (locs : List Loc) (ls : Array Slot), K_8 S_8 → Hp D (Er kA ly) ly n A s.heap S_8 H locs → lv_has ls 2 [(0, .ref (ly 0))] → W p l e (headSpec wsX12_advance { frames := 2, cells := 0, slots := 0, locals := 42 }).room s m [.ref (ly 0)].toArray below meth c H locs 0 0 (MQ below (va_Qv Q (Gp D (Er kA ly) ly n A kA) A) [.ref (ly 0)].toArray s 0 0 A) (F0 m 34 ls [])) (fu_8 : Nat)  (S_8 : St) (H : Heap) (locs : List Loc) (ls : Array Slot), wl_X12_advance_8 K_8 fu_8 S_8 → Hp D (Er kA ly) ly n A s.heap S_8 H locs → lv_has ls 2 [(0, .ref (ly 0))] → W p l e (headSpec wsX12_advance { frames := 2, cells := 0, slots := 0, locals := 42 }).room s m [.ref (ly 0)].toArray below meth c H locs 0 0 (MQ below (va_Qv Q (Gp D (Er kA ly) ly n A kA) A) [.ref (ly 0)].toArray s 0 0 A) (F0 m 8 ls []) := by
    intro K_8 hk_8 fu_8
    induction fu_8 with
    | zero => intro S_8 H locs ls hw hH hl; rw [wl_X12_advance_8] at hw; exact hw.elim
    | succ fu_8 ih_8 =>
      intro S_8 H locs ls hw hH hl
      rw [wl_X12_advance_8] at hw
      refine lv_aload_n hx hb dX12_advance_8 rfl (lv_at hl 0 rfl) ?_
      refine lv_aload_n hx hb dX12_advance_9 rfl (lv_at hl 0 rfl) ?_
      refine gf_r_8 hx hb hts hiX12 hown hK hn hH lk1 dX12_advance_10 ?_
      refine k_afti (va_runV (As := [.int (gI S_8 0 8)]) (rest := []) ⟨hx, hb, hml, hown, hts⟩ (c_X12_byteAt l D kA ly n hn A (gI S_8 0 8) S_8 _) (cwV 1 hts gX12_advance_X12_byteAt rfl rfl rfl (by decide +kernel) ⟨(Nat.le_of_ble_eq_true rfl), (Nat.le_of_ble_eq_true rfl)⟩) ⟨k_blind, (k_recv hK hH (hn _ (by decide)) Er_0 rfl), k_pre hK hN hH hw⟩ rfl rfl hl.1 rfl (lv_room (Nat.le_of_ble_eq_true rfl)) dX12_advance_13 ⟨Nat.le_refl _, Nat.le_refl _⟩) hH (fun r3 S2 H locs hw hH => ?_)
      refine lv_bipush (v := 32) hx hb dX12_advance_16 (by decide +kernel) ?_
      refine lv_icmp_ne (tgt := 34) hx hb dX12_advance_18 (by decide) (fun hc4 => ?_) (fun hc4 => ?_)
      · replace hw := hw.2 hc4
        exact hk_8  S2 _ _ ls hw hH (lv_sub hl [0] rfl)
      · replace hw := hw.1 hc4
        refine lv_aload_n hx hb dX12_advance_21 rfl (lv_at hl 0 rfl) ?_
        refine lv_dup hx hb dX12_advance_22 rfl ?_
        refine gf_r_8 hx hb hts hiX12 hown hK hn hH lk1 dX12_advance_23 ?_
        refine lv_iconst (v := 1) hx hb dX12_advance_26 (by decide +kernel) ?_
        refine lv_iadd hx hb dX12_advance_27 ?_
        refine pf_r_8 hx hb hts hiX12 hown hK hn hH lk1 dX12_advance_28 (fun S5 H locs eS5 hH => ?_)
        replace hw := hw S5 eS5
        refine lv_goto (tgt := 8) hx hb dX12_advance_31 (by decide) ?_
        exact ih_8  S5 _ _ ls hw hH (lv_sub hl [0] rfl)
  obtain ⟨m_8, hw⟩ := hw
  refine L_8 _ (fun S6 H locs ls hw hH hl => ?_) m_8 S1 _ _ ls hw hH (lv_sub hl [0] rfl)
  refine lv_aload_n hx hb dX12_advance_34 rfl (lv_at hl 0 rfl) ?_
  refine lv_aload_n hx hb dX12_advance_35 rfl (lv_at hl 0 rfl) ?_
  refine gf_r_8 hx hb hts hiX12 hown hK hn hH lk1 dX12_advance_36 ?_
  refine pf_r_9 hx hb hts hiX12 hown hK hn hH lk0 dX12_advance_39 (fun S7 H locs eS7 hH => ?_)
  replace hw := hw S7 eS7
  refine lv_aload_n hx hb dX12_advance_42 rfl (lv_at hl 0 rfl) ?_
  refine lv_aload_n hx hb dX12_advance_43 rfl (lv_at hl 0 rfl) ?_
  refine gf_r_8 hx hb hts hiX12 hown hK hn hH lk1 dX12_advance_44 ?_
  refine k_afti (va_runV (As := [.int (gI S7 0 8)]) (rest := []) ⟨hx, hb, hml, hown, hts⟩ (c_X12_byteAt l D kA ly n hn A (gI S7 0 8) S7 _) (cwV 1 hts gX12_advance_X12_byteAt rfl rfl rfl (by decide +kernel) ⟨(Nat.le_of_ble_eq_true rfl), (Nat.le_of_ble_eq_true rfl)⟩) ⟨k_blind, (k_recv hK hH (hn _ (by decide)) Er_0 rfl), k_pre hK hN hH hw⟩ rfl rfl hl.1 rfl (lv_room (Nat.le_of_ble_eq_true rfl)) dX12_advance_47 ⟨Nat.le_refl _, Nat.le_refl _⟩) hH (fun r9 S8 H locs hw hH => ?_)
  refine lv_istore_n (lv' := [(1, .int r9), (0, .ref (ly 0))]) hx hb dX12_advance_50 rfl hl (by decide) rfl (fun ls hl => ?_)
  refine lv_aload_n hx hb dX12_advance_51 rfl (lv_at hl 1 rfl) ?_
  refine lv_iload_n hx hb dX12_advance_52 rfl (lv_at hl 0 rfl) ?_
  have J_83 : ∀ (q0_83 : Int32) (S_83 : St) (H : Heap) (locs : List Loc) (ls : Array Slot), wj_X12_advance_83 r9 Q q0_83 S_83 → Hp D (Er kA ly) ly n A s.heap S_83 H locs → lv_has ls 2 [(0, .ref (ly 0)), (1, .int r9)] → W p l e (headSpec wsX12_advance { frames := 2, cells := 0, slots := 0, locals := 42 }).room s m [.ref (ly 0)].toArray below meth c H locs 0 0 (MQ below (va_Qv Q (Gp D (Er kA ly) ly n A kA) A) [.ref (ly 0)].toArray s 0 0 A) (F0 m 83 ls [.int q0_83, .ref (ly 0)]) := by
    intro q0_83 S_83 H locs ls hw hH hl
    rw [wj_X12_advance_83] at hw
    refine pf_r_7 hx hb hts hiX12 hown hK hn hH lk2 dX12_advance_83 (fun S10 H locs eS10 hH => ?_)
    replace hw := hw S10 eS10
    refine lv_aload_n hx hb dX12_advance_86 rfl (lv_at hl 0 rfl) ?_
    refine lv_lconst (v := 0) hx hb dX12_advance_87 (by decide +kernel) ?_
    refine pf_r_10 hx hb hts hiX12 hown hK hn hH lk3 dX12_advance_88 (fun S11 H locs eS11 hH => ?_)
    replace hw := hw S11 eS11
    refine lv_aload_n hx hb dX12_advance_91 rfl (lv_at hl 0 rfl) ?_
    refine lv_aload_n hx hb dX12_advance_92 rfl (lv_at hl 0 rfl) ?_
    refine gf_r_7 hx hb hts hiX12 hown hK hn hH lk2 dX12_advance_93 ?_
    refine lv_iconst (v := 2) hx hb dX12_advance_96 (by decide +kernel) ?_
    have J_105 : ∀ (q0_105 : Int32) (S_105 : St) (H : Heap) (locs : List Loc) (ls : Array Slot), wj_X12_advance_105 Q q0_105 S_105 → Hp D (Er kA ly) ly n A s.heap S_105 H locs → lv_has ls 2 [(0, .ref (ly 0)), (1, .int r9)] → W p l e (headSpec wsX12_advance { frames := 2, cells := 0, slots := 0, locals := 42 }).room s m [.ref (ly 0)].toArray below meth c H locs 0 0 (MQ below (va_Qv Q (Gp D (Er kA ly) ly n A kA) A) [.ref (ly 0)].toArray s 0 0 A) (F0 m 105 ls [.int q0_105, .ref (ly 0)]) := by
      intro q0_105 S_105 H locs ls hw hH hl
      rw [wj_X12_advance_105] at hw
      refine pf_r_11 hx hb hts hiX12 hown hK hn hH lk4 dX12_advance_105 (fun S12 H locs eS12 hH => ?_)
      replace hw := hw S12 eS12
      refine lv_aload_n hx hb dX12_advance_108 rfl (lv_at hl 0 rfl) ?_
      refine gf_r_7 hx hb hts hiX12 hown hK hn hH lk2 dX12_advance_109 ?_
      refine lv_iconst (v := 3) hx hb dX12_advance_112 (by decide +kernel) ?_
      have J_126 : ∀  (S_126 : St) (H : Heap) (locs : List Loc) (ls : Array Slot), wj_X12_advance_126 Q S_126 → Hp D (Er kA ly) ly n A s.heap S_126 H locs → lv_has ls 2 [(0, .ref (ly 0)), (1, .int r9)] → W p l e (headSpec wsX12_advance { frames := 2, cells := 0, slots := 0, locals := 42 }).room s m [.ref (ly 0)].toArray below meth c H locs 0 0 (MQ below (va_Qv Q (Gp D (Er kA ly) ly n A kA) A) [.ref (ly 0)].toArray s 0 0 A) (F0 m 126 ls []) := by
        intro S_126 H locs ls hw hH hl
        rw [wj_X12_advance_126] at hw
        have L_126 : ∀ (K_126 : St → Prop) (hk_126 : ∀  (S_126 : St) (H : Heap) (locs : List Loc) (ls : Array Slot), K_126 S_126 → Hp D (Er kA ly) ly n A s.heap S_126 H locs → lv_has ls 2 [(0, .ref (ly 0)), (1, .int r9)] → W p l e (headSpec wsX12_advance { frames := 2, cells := 0, slots := 0, locals := 42 }).room s m [.ref (ly 0)].toArray below meth c H locs 0 0 (MQ below (va_Qv Q (Gp D (Er kA ly) ly n A kA) A) [.ref (ly 0)].toArray s 0 0 A) (F0 m 207 ls [])) (fu_126 : Nat)  (S_126 : St) (H : Heap) (locs : List Loc) (ls : Array Slot), wl_X12_advance_126 K_126 fu_126 S_126 → Hp D (Er kA ly) ly n A s.heap S_126 H locs → lv_has ls 2 [(0, .ref (ly 0)), (1, .int r9)] → W p l e (headSpec wsX12_advance { frames := 2, cells := 0, slots := 0, locals := 42 }).room s m [.ref (ly 0)].toArray below meth c H locs 0 0 (MQ below (va_Qv Q (Gp D (Er kA ly) ly n A kA) A) [.ref (ly 0)].toArray s 0 0 A) (F0 m 126 ls []) := by
          intro K_126 hk_126 fu_126
          induction fu_126 with
          | zero => intro S_126 H locs ls hw hH hl; rw [wl_X12_advance_126] at hw; exact hw.elim
          | succ fu_126 ih_126 =>
            intro S_126 H locs ls hw hH hl
            rw [wl_X12_advance_126] at hw
            refine lv_aload_n hx hb dX12_advance_126 rfl (lv_at hl 0 rfl) ?_
            refine gf_r_7 hx hb hts hiX12 hown hK hn hH lk2 dX12_advance_127 ?_
            refine lv_iconst (v := 1) hx hb dX12_advance_130 (by decide +kernel) ?_
            refine lv_icmp_ne (tgt := 207) hx hb dX12_advance_131 (by decide) (fun hc13 => ?_) (fun hc13 => ?_)
            · replace hw := hw.2 hc13
              exact hk_126  S_126 _ _ ls hw hH (lv_sub hl [0, 1] rfl)
            · replace hw := hw.1 hc13
              refine lv_aload_n hx hb dX12_advance_134 rfl (lv_at hl 0 rfl) ?_
              refine lv_aload_n hx hb dX12_advance_135 rfl (lv_at hl 0 rfl) ?_
              refine gf_r_9 hx hb hts hiX12 hown hK hn hH lk0 dX12_advance_136 ?_
              refine k_afti (va_runV (As := [.int (gI S_126 0 9)]) (rest := []) ⟨hx, hb, hml, hown, hts⟩ (c_X12_byteAt l D kA ly n hn A (gI S_126 0 9) S_126 _) (cwV 1 hts gX12_advance_X12_byteAt rfl rfl rfl (by decide +kernel) ⟨(Nat.le_of_ble_eq_true rfl), (Nat.le_of_ble_eq_true rfl)⟩) ⟨k_blind, (k_recv hK hH (hn _ (by decide)) Er_0 rfl), k_pre hK hN hH hw⟩ rfl rfl hl.1 rfl (lv_room (Nat.le_of_ble_eq_true rfl)) dX12_advance_139 ⟨Nat.le_refl _, Nat.le_refl _⟩) hH (fun r15 S14 H locs hw hH => ?_)
              refine k_afti (va_runS (As := [.int r15]) (rest := []) ⟨hx, hb, hml, hown, hts⟩ (c_X12_isLetter l D kA ly n hn A r15 S14 _) (va_cwS 1 hts gX12_advance_X12_isLetter rfl rfl rfl (by decide +kernel) ⟨(Nat.le_of_ble_eq_true rfl), (Nat.le_of_ble_eq_true rfl)⟩) ⟨k_blind, k_pre hK hN hH hw⟩ rfl rfl hl.1 rfl (lv_room (Nat.le_of_ble_eq_true rfl)) dX12_advance_142 ⟨Nat.le_refl _, Nat.le_refl _⟩) hH (fun r17 S16 H locs hw hH => ?_)
              refine lv_if_eq (tgt := 207) hx hb dX12_advance_145 (by decide) (fun hc18 => ?_) (fun hc18 => ?_)
              · replace hw := hw.1 hc18
                exact hk_126  S16 _ _ ls hw hH (lv_sub hl [0, 1] rfl)
              · replace hw := hw.2 hc18
                refine lv_aload_n hx hb dX12_advance_148 rfl (lv_at hl 0 rfl) ?_
                refine lv_aload_n hx hb dX12_advance_149 rfl (lv_at hl 0 rfl) ?_
                refine gf_r_9 hx hb hts hiX12 hown hK hn hH lk0 dX12_advance_150 ?_
                refine lv_aload_n hx hb dX12_advance_153 rfl (lv_at hl 0 rfl) ?_
                refine gf_r_8 hx hb hts hiX12 hown hK hn hH lk1 dX12_advance_154 ?_
                refine lv_isub hx hb dX12_advance_157 ?_
                refine lv_bipush (v := 8) hx hb dX12_advance_158 (by decide +kernel) ?_
                refine lv_icmp_ge (tgt := 188) hx hb dX12_advance_160 (by decide) (fun hc19 => ?_) (fun hc19 => ?_)
                · replace hw := hw.1 hc19
                  refine lv_ldc2 (v := -1) hx hb hown lk5 dX12_advance_188 ?_
                  refine pf_r_10 hx hb hts hiX12 hown hK hn hH lk3 dX12_advance_191 (fun S20 H locs eS20 hH => ?_)
                  replace hw := hw S20 eS20
                  refine lv_aload_n hx hb dX12_advance_194 rfl (lv_at hl 0 rfl) ?_
                  refine lv_dup hx hb dX12_advance_195 rfl ?_
                  refine gf_r_9 hx hb hts hiX12 hown hK hn hH lk0 dX12_advance_196 ?_
                  refine lv_iconst (v := 1) hx hb dX12_advance_199 (by decide +kernel) ?_
                  refine lv_iadd hx hb dX12_advance_200 ?_
                  refine pf_r_9 hx hb hts hiX12 hown hK hn hH lk0 dX12_advance_201 (fun S21 H locs eS21 hH => ?_)
                  replace hw := hw S21 eS21
                  refine lv_goto (tgt := 126) hx hb dX12_advance_204 (by decide) ?_
                  exact ih_126  S21 _ _ ls hw hH (lv_sub hl [0, 1] rfl)
                · replace hw := hw.2 hc19
                  refine lv_ldc2 (v := 27) hx hb hown lk6 dX12_advance_163 ?_
                  refine lv_aload_n hx hb dX12_advance_166 rfl (lv_at hl 0 rfl) ?_
                  refine gf_r_10 hx hb hts hiX12 hown hK hn hH lk3 dX12_advance_167 ?_
                  refine lv_lmul hx hb dX12_advance_170 ?_
                  refine lv_aload_n hx hb dX12_advance_171 rfl (lv_at hl 0 rfl) ?_
                  refine lv_aload_n hx hb dX12_advance_172 rfl (lv_at hl 0 rfl) ?_
                  refine gf_r_9 hx hb hts hiX12 hown hK hn hH lk0 dX12_advance_173 ?_
                  refine k_afti (va_runV (As := [.int (gI S16 0 9)]) (rest := [.long ((27 : Int64) * (gL S16 0 10)), .ref (ly 0)]) ⟨hx, hb, hml, hown, hts⟩ (c_X12_byteAt l D kA ly n hn A (gI S16 0 9) S16 _) (cwV 1 hts gX12_advance_X12_byteAt rfl rfl rfl (by decide +kernel) ⟨(Nat.le_of_ble_eq_true rfl), (Nat.le_of_ble_eq_true rfl)⟩) ⟨k_blind, (k_recv hK hH (hn _ (by decide)) Er_0 rfl), k_pre hK hN hH hw⟩ rfl rfl hl.1 rfl (lv_room (Nat.le_of_ble_eq_true rfl)) dX12_advance_176 ⟨Nat.le_refl _, Nat.le_refl _⟩) hH (fun r23 S22 H locs hw hH => ?_)
                  refine lv_i2l hx hb dX12_advance_179 rfl ?_
                  refine lv_ladd hx hb dX12_advance_180 ?_
                  refine lv_ldc2 (v := 96) hx hb hown lk7 dX12_advance_181 ?_
                  refine lv_lsub hx hb dX12_advance_184 ?_
                  refine lv_goto (tgt := 191) hx hb dX12_advance_185 (by decide) ?_
                  refine pf_r_10 hx hb hts hiX12 hown hK hn hH lk3 dX12_advance_191 (fun S24 H locs eS24 hH => ?_)
                  replace hw := hw S24 eS24
                  refine lv_aload_n hx hb dX12_advance_194 rfl (lv_at hl 0 rfl) ?_
                  refine lv_dup hx hb dX12_advance_195 rfl ?_
                  refine gf_r_9 hx hb hts hiX12 hown hK hn hH lk0 dX12_advance_196 ?_
                  refine lv_iconst (v := 1) hx hb dX12_advance_199 (by decide +kernel) ?_
                  refine lv_iadd hx hb dX12_advance_200 ?_
                  refine pf_r_9 hx hb hts hiX12 hown hK hn hH lk0 dX12_advance_201 (fun S25 H locs eS25 hH => ?_)
                  replace hw := hw S25 eS25
                  refine lv_goto (tgt := 126) hx hb dX12_advance_204 (by decide) ?_
                  exact ih_126  S25 _ _ ls hw hH (lv_sub hl [0, 1] rfl)
        obtain ⟨m_126, hw⟩ := hw
        refine L_126 _ (fun S26 H locs ls hw hH hl => ?_) m_126 S_126 _ _ ls hw hH (lv_sub hl [0, 1] rfl)
        have L_207 : ∀ (K_207 : St → Prop) (hk_207 : ∀  (S_207 : St) (H : Heap) (locs : List Loc) (ls : Array Slot), K_207 S_207 → Hp D (Er kA ly) ly n A s.heap S_207 H locs → lv_has ls 2 [(0, .ref (ly 0)), (1, .int r9)] → W p l e (headSpec wsX12_advance { frames := 2, cells := 0, slots := 0, locals := 42 }).room s m [.ref (ly 0)].toArray below meth c H locs 0 0 (MQ below (va_Qv Q (Gp D (Er kA ly) ly n A kA) A) [.ref (ly 0)].toArray s 0 0 A) (F0 m 282 ls [])) (fu_207 : Nat)  (S_207 : St) (H : Heap) (locs : List Loc) (ls : Array Slot), wl_X12_advance_207 K_207 fu_207 S_207 → Hp D (Er kA ly) ly n A s.heap S_207 H locs → lv_has ls 2 [(0, .ref (ly 0)), (1, .int r9)] → W p l e (headSpec wsX12_advance { frames := 2, cells := 0, slots := 0, locals := 42 }).room s m [.ref (ly 0)].toArray below meth c H locs 0 0 (MQ below (va_Qv Q (Gp D (Er kA ly) ly n A kA) A) [.ref (ly 0)].toArray s 0 0 A) (F0 m 207 ls []) := by
          intro K_207 hk_207 fu_207
          induction fu_207 with
          | zero => intro S_207 H locs ls hw hH hl; rw [wl_X12_advance_207] at hw; exact hw.elim
          | succ fu_207 ih_207 =>
            intro S_207 H locs ls hw hH hl
            rw [wl_X12_advance_207] at hw
            refine lv_aload_n hx hb dX12_advance_207 rfl (lv_at hl 0 rfl) ?_
            refine gf_r_7 hx hb hts hiX12 hown hK hn hH lk2 dX12_advance_208 ?_
            refine lv_iconst (v := 2) hx hb dX12_advance_211 (by decide +kernel) ?_
            refine lv_icmp_ne (tgt := 282) hx hb dX12_advance_212 (by decide) (fun hc27 => ?_) (fun hc27 => ?_)
            · replace hw := hw.2 hc27
              exact hk_207  S_207 _ _ ls hw hH (lv_sub hl [0, 1] rfl)
            · replace hw := hw.1 hc27
              refine lv_aload_n hx hb dX12_advance_215 rfl (lv_at hl 0 rfl) ?_
              refine lv_aload_n hx hb dX12_advance_216 rfl (lv_at hl 0 rfl) ?_
              refine gf_r_9 hx hb hts hiX12 hown hK hn hH lk0 dX12_advance_217 ?_
              refine k_afti (va_runV (As := [.int (gI S_207 0 9)]) (rest := []) ⟨hx, hb, hml, hown, hts⟩ (c_X12_byteAt l D kA ly n hn A (gI S_207 0 9) S_207 _) (cwV 1 hts gX12_advance_X12_byteAt rfl rfl rfl (by decide +kernel) ⟨(Nat.le_of_ble_eq_true rfl), (Nat.le_of_ble_eq_true rfl)⟩) ⟨k_blind, (k_recv hK hH (hn _ (by decide)) Er_0 rfl), k_pre hK hN hH hw⟩ rfl rfl hl.1 rfl (lv_room (Nat.le_of_ble_eq_true rfl)) dX12_advance_220 ⟨Nat.le_refl _, Nat.le_refl _⟩) hH (fun r29 S28 H locs hw hH => ?_)
              refine k_afti (va_runS (As := [.int r29]) (rest := []) ⟨hx, hb, hml, hown, hts⟩ (c_X12_isDigit l D kA ly n hn A r29 S28 _) (va_cwS 1 hts gX12_advance_X12_isDigit rfl rfl rfl (by decide +kernel) ⟨(Nat.le_of_ble_eq_true rfl), (Nat.le_of_ble_eq_true rfl)⟩) ⟨k_blind, k_pre hK hN hH hw⟩ rfl rfl hl.1 rfl (lv_room (Nat.le_of_ble_eq_true rfl)) dX12_advance_223 ⟨Nat.le_refl _, Nat.le_refl _⟩) hH (fun r31 S30 H locs hw hH => ?_)
              refine lv_if_eq (tgt := 282) hx hb dX12_advance_226 (by decide) (fun hc32 => ?_) (fun hc32 => ?_)
              · replace hw := hw.1 hc32
                exact hk_207  S30 _ _ ls hw hH (lv_sub hl [0, 1] rfl)
              · replace hw := hw.2 hc32
                refine lv_aload_n hx hb dX12_advance_229 rfl (lv_at hl 0 rfl) ?_
                refine lv_aload_n hx hb dX12_advance_230 rfl (lv_at hl 0 rfl) ?_
                refine gf_r_9 hx hb hts hiX12 hown hK hn hH lk0 dX12_advance_231 ?_
                refine lv_aload_n hx hb dX12_advance_234 rfl (lv_at hl 0 rfl) ?_
                refine gf_r_8 hx hb hts hiX12 hown hK hn hH lk1 dX12_advance_235 ?_
                refine lv_isub hx hb dX12_advance_238 ?_
                refine lv_iconst (v := 2) hx hb dX12_advance_239 (by decide +kernel) ?_
                refine lv_icmp_ge (tgt := 265) hx hb dX12_advance_240 (by decide) (fun hc33 => ?_) (fun hc33 => ?_)
                · replace hw := hw.1 hc33
                  refine lv_iconst (v := -1) hx hb dX12_advance_265 (by decide +kernel) ?_
                  refine pf_r_11 hx hb hts hiX12 hown hK hn hH lk4 dX12_advance_266 (fun S34 H locs eS34 hH => ?_)
                  replace hw := hw S34 eS34
                  refine lv_aload_n hx hb dX12_advance_269 rfl (lv_at hl 0 rfl) ?_
                  refine lv_dup hx hb dX12_advance_270 rfl ?_
                  refine gf_r_9 hx hb hts hiX12 hown hK hn hH lk0 dX12_advance_271 ?_
                  refine lv_iconst (v := 1) hx hb dX12_advance_274 (by decide +kernel) ?_
                  refine lv_iadd hx hb dX12_advance_275 ?_
                  refine pf_r_9 hx hb hts hiX12 hown hK hn hH lk0 dX12_advance_276 (fun S35 H locs eS35 hH => ?_)
                  replace hw := hw S35 eS35
                  refine lv_goto (tgt := 207) hx hb dX12_advance_279 (by decide) ?_
                  exact ih_207  S35 _ _ ls hw hH (lv_sub hl [0, 1] rfl)
                · replace hw := hw.2 hc33
                  refine lv_bipush (v := 10) hx hb dX12_advance_243 (by decide +kernel) ?_
                  refine lv_aload_n hx hb dX12_advance_245 rfl (lv_at hl 0 rfl) ?_
                  refine gf_r_11 hx hb hts hiX12 hown hK hn hH lk4 dX12_advance_246 ?_
                  refine lv_imul hx hb dX12_advance_249 ?_
                  refine lv_aload_n hx hb dX12_advance_250 rfl (lv_at hl 0 rfl) ?_
                  refine lv_aload_n hx hb dX12_advance_251 rfl (lv_at hl 0 rfl) ?_
                  refine gf_r_9 hx hb hts hiX12 hown hK hn hH lk0 dX12_advance_252 ?_
                  refine k_afti (va_runV (As := [.int (gI S30 0 9)]) (rest := [.int ((10 : Int32) * (gI S30 0 11)), .ref (ly 0)]) ⟨hx, hb, hml, hown, hts⟩ (c_X12_byteAt l D kA ly n hn A (gI S30 0 9) S30 _) (cwV 1 hts gX12_advance_X12_byteAt rfl rfl rfl (by decide +kernel) ⟨(Nat.le_of_ble_eq_true rfl), (Nat.le_of_ble_eq_true rfl)⟩) ⟨k_blind, (k_recv hK hH (hn _ (by decide)) Er_0 rfl), k_pre hK hN hH hw⟩ rfl rfl hl.1 rfl (lv_room (Nat.le_of_ble_eq_true rfl)) dX12_advance_255 ⟨Nat.le_refl _, Nat.le_refl _⟩) hH (fun r37 S36 H locs hw hH => ?_)
                  refine lv_iadd hx hb dX12_advance_258 ?_
                  refine lv_bipush (v := 48) hx hb dX12_advance_259 (by decide +kernel) ?_
                  refine lv_isub hx hb dX12_advance_261 ?_
                  refine lv_goto (tgt := 266) hx hb dX12_advance_262 (by decide) ?_
                  refine pf_r_11 hx hb hts hiX12 hown hK hn hH lk4 dX12_advance_266 (fun S38 H locs eS38 hH => ?_)
                  replace hw := hw S38 eS38
                  refine lv_aload_n hx hb dX12_advance_269 rfl (lv_at hl 0 rfl) ?_
                  refine lv_dup hx hb dX12_advance_270 rfl ?_
                  refine gf_r_9 hx hb hts hiX12 hown hK hn hH lk0 dX12_advance_271 ?_
                  refine lv_iconst (v := 1) hx hb dX12_advance_274 (by decide +kernel) ?_
                  refine lv_iadd hx hb dX12_advance_275 ?_
                  refine pf_r_9 hx hb hts hiX12 hown hK hn hH lk0 dX12_advance_276 (fun S39 H locs eS39 hH => ?_)
                  replace hw := hw S39 eS39
                  refine lv_goto (tgt := 207) hx hb dX12_advance_279 (by decide) ?_
                  exact ih_207  S39 _ _ ls hw hH (lv_sub hl [0, 1] rfl)
        obtain ⟨m_207, hw⟩ := hw
        refine L_207 _ (fun S40 H locs ls hw hH hl => ?_) m_207 S26 _ _ ls hw hH (lv_sub hl [0, 1] rfl)
        exact k_vret hx hb hr hlocks hK hN hH hw dX12_advance_282
      refine lv_icmp_ne (tgt := 126) hx hb dX12_advance_113 (by decide) (fun hc41 => ?_) (fun hc41 => ?_)
      · replace hw := hw.2 hc41
        exact J_126  S12 _ _ ls hw hH (lv_sub hl [0, 1] rfl)
      · replace hw := hw.1 hc41
        refine lv_aload_n hx hb dX12_advance_116 rfl (lv_at hl 0 rfl) ?_
        refine lv_dup hx hb dX12_advance_117 rfl ?_
        refine gf_r_9 hx hb hts hiX12 hown hK hn hH lk0 dX12_advance_118 ?_
        refine lv_iconst (v := 1) hx hb dX12_advance_121 (by decide +kernel) ?_
        refine lv_iadd hx hb dX12_advance_122 ?_
        refine pf_r_9 hx hb hts hiX12 hown hK hn hH lk0 dX12_advance_123 (fun S42 H locs eS42 hH => ?_)
        replace hw := hw S42 eS42
        exact J_126  S42 _ _ ls hw hH (lv_sub hl [0, 1] rfl)
    refine lv_icmp_ne (tgt := 104) hx hb dX12_advance_97 (by decide) (fun hc43 => ?_) (fun hc43 => ?_)
    · replace hw := hw.2 hc43
      refine lv_iload_n hx hb dX12_advance_104 rfl (lv_at hl 1 rfl) ?_
      exact J_105 r9 S11 _ _ ls hw hH (lv_sub hl [0, 1] rfl)
    · replace hw := hw.1 hc43
      refine lv_iconst (v := 0) hx hb dX12_advance_100 (by decide +kernel) ?_
      refine lv_goto (tgt := 105) hx hb dX12_advance_101 (by decide) ?_
      exact J_105 (0 : Int32) S11 _ _ ls hw hH (lv_sub hl [0, 1] rfl)
  refine lv_if_ge (tgt := 60) hx hb dX12_advance_53 (by decide) (fun hc44 => ?_) (fun hc44 => ?_)
  · replace hw := hw.1 hc44
    refine lv_iload_n hx hb dX12_advance_60 rfl (lv_at hl 0 rfl) ?_
    refine k_afti (va_runS (As := [.int r9]) (rest := [.ref (ly 0)]) ⟨hx, hb, hml, hown, hts⟩ (c_X12_isLetter l D kA ly n hn A r9 S8 _) (va_cwS 1 hts gX12_advance_X12_isLetter rfl rfl rfl (by decide +kernel) ⟨(Nat.le_of_ble_eq_true rfl), (Nat.le_of_ble_eq_true rfl)⟩) ⟨k_blind, k_pre hK hN hH hw⟩ rfl rfl hl.1 rfl (lv_room (Nat.le_of_ble_eq_true rfl)) dX12_advance_61 ⟨Nat.le_refl _, Nat.le_refl _⟩) hH (fun r46 S45 H locs hw hH => ?_)
    refine lv_if_eq (tgt := 71) hx hb dX12_advance_64 (by decide) (fun hc47 => ?_) (fun hc47 => ?_)
    · replace hw := hw.1 hc47
      refine lv_iload_n hx hb dX12_advance_71 rfl (lv_at hl 0 rfl) ?_
      refine k_afti (va_runS (As := [.int r9]) (rest := [.ref (ly 0)]) ⟨hx, hb, hml, hown, hts⟩ (c_X12_isDigit l D kA ly n hn A r9 S45 _) (va_cwS 1 hts gX12_advance_X12_isDigit rfl rfl rfl (by decide +kernel) ⟨(Nat.le_of_ble_eq_true rfl), (Nat.le_of_ble_eq_true rfl)⟩) ⟨k_blind, k_pre hK hN hH hw⟩ rfl rfl hl.1 rfl (lv_room (Nat.le_of_ble_eq_true rfl)) dX12_advance_72 ⟨Nat.le_refl _, Nat.le_refl _⟩) hH (fun r49 S48 H locs hw hH => ?_)
      refine lv_if_eq (tgt := 82) hx hb dX12_advance_75 (by decide) (fun hc50 => ?_) (fun hc50 => ?_)
      · replace hw := hw.1 hc50
        refine lv_iconst (v := 3) hx hb dX12_advance_82 (by decide +kernel) ?_
        exact J_83 (3 : Int32) S48 _ _ ls hw hH (lv_sub hl [1, 0] rfl)
      · replace hw := hw.2 hc50
        refine lv_iconst (v := 2) hx hb dX12_advance_78 (by decide +kernel) ?_
        refine lv_goto (tgt := 83) hx hb dX12_advance_79 (by decide) ?_
        exact J_83 (2 : Int32) S48 _ _ ls hw hH (lv_sub hl [1, 0] rfl)
    · replace hw := hw.2 hc47
      refine lv_iconst (v := 1) hx hb dX12_advance_67 (by decide +kernel) ?_
      refine lv_goto (tgt := 83) hx hb dX12_advance_68 (by decide) ?_
      exact J_83 (1 : Int32) S45 _ _ ls hw hH (lv_sub hl [1, 0] rfl)
  · replace hw := hw.2 hc44
    refine lv_iconst (v := 0) hx hb dX12_advance_56 (by decide +kernel) ?_
    refine lv_goto (tgt := 83) hx hb dX12_advance_57 (by decide) ?_
    exact J_83 (0 : Int32) S8 _ _ ls hw hH (lv_sub hl [1, 0] rfl)
def wp_X12_isWord (a1 : Int64) (S : St) (Q : Int32 → St → Prop) : Prop := (((gI S 0 7) = (1 : Int32) → (((lg_cmp (gL S 0 10) a1) = 0 → Q (1 : Int32) S) ∧ (¬ (lg_cmp (gL S 0 10) a1) = 0 → Q (0 : Int32) S))) ∧ (¬ (gI S 0 7) = (1 : Int32) → Q (0 : Int32) S))
set_option maxHeartbeats 4000000 in
set_option maxRecDepth 100000 in
theorem c_X12_isWord (l : Launch) (D : va_G) (kA : Nat → ClassId) (ly : Nat → Nat) (n : List Nat) (hn : ∀ c, c < 20 → c ∈ n) (A : Nat → Prop) (a1 : Int64) : Ci l yX12_isWord wsX12_isWord 0 0 (Gp D (Er kA ly) ly n A kA) A [.ref (ly 0), .long a1] (wp_X12_isWord a1) := by
  intro S Q
  refine Met.ofW (cc := cX12_isWord) (maxL := 3) (ret := (some .boolean)) (by decide) rfl ?_
  intro p e s m args below meth c s₁ B hml hv
  obtain ⟨rfl, ⟨hP, hD, hK, hN⟩, hw⟩ := hv
  have hx := B.exec
  have hb := B.bytes
  have hr := B.returns
  have hts := atoms_spec (ws := wsX12_isWord) B.pre
  have hown : s.vm.findClass RX12 = some m.cls := findClass_of_methodNamed B.named
  have hlocks := B.notSynchronized
  have hH : Hp D (Er kA ly) ly n A s.heap S s.heap [] := ⟨hP, hD, va_S.rf⟩
  have hiX12 : ∀ w ∈ u_ws RX12 TX12 39, w ∈ wsX12_isWord := by decide +kernel
  have lk0 := hts (.fieldLink RX12 101 "SlowPanesModel" "sort" "I") (by decide +kernel)
  have lk1 := hts (.fieldLink RX12 104 "SlowPanesModel" "word" "J") (by decide +kernel)
  have hl := lv_entry ([.ref (ly 0), .long a1]) (n := 3) (Nat.le_of_ble_eq_true rfl)
  rw [lg_entry_eq]
  generalize (lg_sl ([.ref (ly 0), .long a1]) ++ List.replicate (3 - (lg_sl ([.ref (ly 0), .long a1])).length) Slot.unset).toArray = ls at hl ⊢
  have hl : lv_has ls 3 [(0, .ref (ly 0)), (1, .long a1)] := hl
  rw [wp_X12_isWord] at hw
  refine lv_aload_n hx hb dX12_isWord_0 rfl (lv_at hl 0 rfl) ?_
  refine gf_r_7 hx hb hts hiX12 hown hK hn hH lk0 dX12_isWord_1 ?_
  refine lv_iconst (v := 1) hx hb dX12_isWord_4 (by decide +kernel) ?_
  refine lv_icmp_ne (tgt := 21) hx hb dX12_isWord_5 (by decide) (fun hc1 => ?_) (fun hc1 => ?_)
  · replace hw := hw.2 hc1
    refine lv_iconst (v := 0) hx hb dX12_isWord_21 (by decide +kernel) ?_
    exact k_zret hx hb hr hlocks hK hN hH rfl hw dX12_isWord_22
  · replace hw := hw.1 hc1
    refine lv_aload_n hx hb dX12_isWord_8 rfl (lv_at hl 0 rfl) ?_
    refine gf_r_10 hx hb hts hiX12 hown hK hn hH lk1 dX12_isWord_9 ?_
    refine lv_lload_n hx hb dX12_isWord_12 rfl (lv_at hl 1 rfl) ?_
    refine W.lcmp hx hb dX12_isWord_13 ?_
    refine lv_if_ne (tgt := 21) hx hb dX12_isWord_14 (by decide) (fun hc2 => ?_) (fun hc2 => ?_)
    · replace hw := hw.2 hc2
      refine lv_iconst (v := 0) hx hb dX12_isWord_21 (by decide +kernel) ?_
      exact k_zret hx hb hr hlocks hK hN hH rfl hw dX12_isWord_22
    · replace hw := hw.1 hc2
      refine lv_iconst (v := 1) hx hb dX12_isWord_17 (by decide +kernel) ?_
      refine lv_goto (tgt := 22) hx hb dX12_isWord_18 (by decide) ?_
      exact k_zret hx hb hr hlocks hK hN hH rfl hw dX12_isWord_22
def wp_X12_isMark (a1 : Int32) (S : St) (Q : Int32 → St → Prop) : Prop := (((gI S 0 7) = (3 : Int32) → (((gI S 0 11) = a1 → Q (1 : Int32) S) ∧ (¬ (gI S 0 11) = a1 → Q (0 : Int32) S))) ∧ (¬ (gI S 0 7) = (3 : Int32) → Q (0 : Int32) S))
set_option maxHeartbeats 4000000 in
set_option maxRecDepth 100000 in
theorem c_X12_isMark (l : Launch) (D : va_G) (kA : Nat → ClassId) (ly : Nat → Nat) (n : List Nat) (hn : ∀ c, c < 20 → c ∈ n) (A : Nat → Prop) (a1 : Int32) : Ci l yX12_isMark wsX12_isMark 0 0 (Gp D (Er kA ly) ly n A kA) A [.ref (ly 0), .int a1] (wp_X12_isMark a1) := by
  intro S Q
  refine Met.ofW (cc := cX12_isMark) (maxL := 2) (ret := (some .boolean)) (by decide) rfl ?_
  intro p e s m args below meth c s₁ B hml hv
  obtain ⟨rfl, ⟨hP, hD, hK, hN⟩, hw⟩ := hv
  have hx := B.exec
  have hb := B.bytes
  have hr := B.returns
  have hts := atoms_spec (ws := wsX12_isMark) B.pre
  have hown : s.vm.findClass RX12 = some m.cls := findClass_of_methodNamed B.named
  have hlocks := B.notSynchronized
  have hH : Hp D (Er kA ly) ly n A s.heap S s.heap [] := ⟨hP, hD, va_S.rf⟩
  have hiX12 : ∀ w ∈ u_ws RX12 TX12 39, w ∈ wsX12_isMark := by decide +kernel
  have lk0 := hts (.fieldLink RX12 101 "SlowPanesModel" "sort" "I") (by decide +kernel)
  have lk1 := hts (.fieldLink RX12 108 "SlowPanesModel" "value" "I") (by decide +kernel)
  have hl := lv_entry ([.ref (ly 0), .int a1]) (n := 2) (Nat.le_of_ble_eq_true rfl)
  rw [lg_entry_eq]
  generalize (lg_sl ([.ref (ly 0), .int a1]) ++ List.replicate (2 - (lg_sl ([.ref (ly 0), .int a1])).length) Slot.unset).toArray = ls at hl ⊢
  have hl : lv_has ls 2 [(0, .ref (ly 0)), (1, .int a1)] := hl
  rw [wp_X12_isMark] at hw
  refine lv_aload_n hx hb dX12_isMark_0 rfl (lv_at hl 0 rfl) ?_
  refine gf_r_7 hx hb hts hiX12 hown hK hn hH lk0 dX12_isMark_1 ?_
  refine lv_iconst (v := 3) hx hb dX12_isMark_4 (by decide +kernel) ?_
  refine lv_icmp_ne (tgt := 20) hx hb dX12_isMark_5 (by decide) (fun hc1 => ?_) (fun hc1 => ?_)
  · replace hw := hw.2 hc1
    refine lv_iconst (v := 0) hx hb dX12_isMark_20 (by decide +kernel) ?_
    exact k_zret hx hb hr hlocks hK hN hH rfl hw dX12_isMark_21
  · replace hw := hw.1 hc1
    refine lv_aload_n hx hb dX12_isMark_8 rfl (lv_at hl 0 rfl) ?_
    refine gf_r_11 hx hb hts hiX12 hown hK hn hH lk1 dX12_isMark_9 ?_
    refine lv_iload_n hx hb dX12_isMark_12 rfl (lv_at hl 1 rfl) ?_
    refine lv_icmp_ne (tgt := 20) hx hb dX12_isMark_13 (by decide) (fun hc2 => ?_) (fun hc2 => ?_)
    · replace hw := hw.2 hc2
      refine lv_iconst (v := 0) hx hb dX12_isMark_20 (by decide +kernel) ?_
      exact k_zret hx hb hr hlocks hK hN hH rfl hw dX12_isMark_21
    · replace hw := hw.1 hc2
      refine lv_iconst (v := 1) hx hb dX12_isMark_16 (by decide +kernel) ?_
      refine lv_goto (tgt := 21) hx hb dX12_isMark_17 (by decide) ?_
      exact k_zret hx hb hr hlocks hK hN hH rfl hw dX12_isMark_21
def wp_X12_kindHere  (S : St) (Q : Int32 → St → Prop) : Prop := wp_X12_isWord (316040 : Int64) S (fun r2 S1 => ((r2 = 0 → wp_X12_isWord (10792937 : Int64) S1 (fun r5 S4 => ((r5 = 0 → wp_X12_isWord (65782373 : Int64) S4 (fun r8 S7 => ((r8 = 0 → wp_X12_isWord (79958 : Int64) S7 (fun r11 S10 => ((r11 = 0 → wp_X12_isWord (7111535836 : Int64) S10 (fun r14 S13 => ((r14 = 0 → wp_X12_isWord (191686599 : Int64) S13 (fun r17 S16 => ((r17 = 0 → Q (-1 : Int32) S16) ∧ (¬ r17 = 0 → Q (5 : Int32) S16)))) ∧ (¬ r14 = 0 → Q (4 : Int32) S13)))) ∧ (¬ r11 = 0 → Q (3 : Int32) S10)))) ∧ (¬ r8 = 0 → Q (2 : Int32) S7)))) ∧ (¬ r5 = 0 → Q (1 : Int32) S4)))) ∧ (¬ r2 = 0 → Q (0 : Int32) S1)))
set_option maxHeartbeats 4000000 in
set_option maxRecDepth 100000 in
theorem c_X12_kindHere (l : Launch) (D : va_G) (kA : Nat → ClassId) (ly : Nat → Nat) (n : List Nat) (hn : ∀ c, c < 20 → c ∈ n) (A : Nat → Prop)  : Ci l yX12_kindHere wsX12_kindHere 1 22 (Gp D (Er kA ly) ly n A kA) A [.ref (ly 0)] (wp_X12_kindHere) := by
  intro S Q
  refine Met.ofW (cc := cX12_kindHere) (maxL := 1) (ret := (some .int)) (by decide) rfl ?_
  intro p e s m args below meth c s₁ B hml hv
  obtain ⟨rfl, ⟨hP, hD, hK, hN⟩, hw⟩ := hv
  have hx := B.exec
  have hb := B.bytes
  have hr := B.returns
  have hts := atoms_spec (ws := wsX12_kindHere) B.pre
  have hown : s.vm.findClass RX12 = some m.cls := findClass_of_methodNamed B.named
  have hlocks := B.notSynchronized
  have hH : Hp D (Er kA ly) ly n A s.heap S s.heap [] := ⟨hP, hD, va_S.rf⟩
  have lk0 := hts (.constantLong RX12 117 (316040)) (by decide +kernel)
  have lk1 := hts (.constantLong RX12 123 (10792937)) (by decide +kernel)
  have lk2 := hts (.constantLong RX12 125 (65782373)) (by decide +kernel)
  have lk3 := hts (.constantLong RX12 127 (79958)) (by decide +kernel)
  have lk4 := hts (.constantLong RX12 129 (7111535836)) (by decide +kernel)
  have lk5 := hts (.constantLong RX12 131 (191686599)) (by decide +kernel)
  have hl := lv_entry ([.ref (ly 0)]) (n := 1) (Nat.le_of_ble_eq_true rfl)
  rw [lg_entry_eq]
  generalize (lg_sl ([.ref (ly 0)]) ++ List.replicate (1 - (lg_sl ([.ref (ly 0)])).length) Slot.unset).toArray = ls at hl ⊢
  have hl : lv_has ls 1 [(0, .ref (ly 0))] := hl
  rw [wp_X12_kindHere] at hw
  refine lv_aload_n hx hb dX12_kindHere_0 rfl (lv_at hl 0 rfl) ?_
  refine lv_ldc2 (v := 316040) hx hb hown lk0 dX12_kindHere_1 ?_
  refine k_afti (va_runV (As := [.long (316040 : Int64)]) (rest := []) ⟨hx, hb, hml, hown, hts⟩ (c_X12_isWord l D kA ly n hn A (316040 : Int64) S _) (cwV 1 hts gX12_kindHere_X12_isWord rfl rfl rfl (by decide +kernel) ⟨(Nat.le_of_ble_eq_true rfl), (Nat.le_of_ble_eq_true rfl)⟩) ⟨k_blind, (k_recv hK hH (hn _ (by decide)) Er_0 rfl), k_pre hK hN hH hw⟩ rfl rfl hl.1 rfl (lv_room (Nat.le_of_ble_eq_true rfl)) dX12_kindHere_4 ⟨Nat.le_refl _, Nat.le_refl _⟩) hH (fun r2 S1 H locs hw hH => ?_)
  refine lv_if_eq (tgt := 14) hx hb dX12_kindHere_7 (by decide) (fun hc3 => ?_) (fun hc3 => ?_)
  · replace hw := hw.1 hc3
    refine lv_aload_n hx hb dX12_kindHere_14 rfl (lv_at hl 0 rfl) ?_
    refine lv_ldc2 (v := 10792937) hx hb hown lk1 dX12_kindHere_15 ?_
    refine k_afti (va_runV (As := [.long (10792937 : Int64)]) (rest := []) ⟨hx, hb, hml, hown, hts⟩ (c_X12_isWord l D kA ly n hn A (10792937 : Int64) S1 _) (cwV 1 hts gX12_kindHere_X12_isWord rfl rfl rfl (by decide +kernel) ⟨(Nat.le_of_ble_eq_true rfl), (Nat.le_of_ble_eq_true rfl)⟩) ⟨k_blind, (k_recv hK hH (hn _ (by decide)) Er_0 rfl), k_pre hK hN hH hw⟩ rfl rfl hl.1 rfl (lv_room (Nat.le_of_ble_eq_true rfl)) dX12_kindHere_18 ⟨Nat.le_refl _, Nat.le_refl _⟩) hH (fun r5 S4 H locs hw hH => ?_)
    refine lv_if_eq (tgt := 28) hx hb dX12_kindHere_21 (by decide) (fun hc6 => ?_) (fun hc6 => ?_)
    · replace hw := hw.1 hc6
      refine lv_aload_n hx hb dX12_kindHere_28 rfl (lv_at hl 0 rfl) ?_
      refine lv_ldc2 (v := 65782373) hx hb hown lk2 dX12_kindHere_29 ?_
      refine k_afti (va_runV (As := [.long (65782373 : Int64)]) (rest := []) ⟨hx, hb, hml, hown, hts⟩ (c_X12_isWord l D kA ly n hn A (65782373 : Int64) S4 _) (cwV 1 hts gX12_kindHere_X12_isWord rfl rfl rfl (by decide +kernel) ⟨(Nat.le_of_ble_eq_true rfl), (Nat.le_of_ble_eq_true rfl)⟩) ⟨k_blind, (k_recv hK hH (hn _ (by decide)) Er_0 rfl), k_pre hK hN hH hw⟩ rfl rfl hl.1 rfl (lv_room (Nat.le_of_ble_eq_true rfl)) dX12_kindHere_32 ⟨Nat.le_refl _, Nat.le_refl _⟩) hH (fun r8 S7 H locs hw hH => ?_)
      refine lv_if_eq (tgt := 42) hx hb dX12_kindHere_35 (by decide) (fun hc9 => ?_) (fun hc9 => ?_)
      · replace hw := hw.1 hc9
        refine lv_aload_n hx hb dX12_kindHere_42 rfl (lv_at hl 0 rfl) ?_
        refine lv_ldc2 (v := 79958) hx hb hown lk3 dX12_kindHere_43 ?_
        refine k_afti (va_runV (As := [.long (79958 : Int64)]) (rest := []) ⟨hx, hb, hml, hown, hts⟩ (c_X12_isWord l D kA ly n hn A (79958 : Int64) S7 _) (cwV 1 hts gX12_kindHere_X12_isWord rfl rfl rfl (by decide +kernel) ⟨(Nat.le_of_ble_eq_true rfl), (Nat.le_of_ble_eq_true rfl)⟩) ⟨k_blind, (k_recv hK hH (hn _ (by decide)) Er_0 rfl), k_pre hK hN hH hw⟩ rfl rfl hl.1 rfl (lv_room (Nat.le_of_ble_eq_true rfl)) dX12_kindHere_46 ⟨Nat.le_refl _, Nat.le_refl _⟩) hH (fun r11 S10 H locs hw hH => ?_)
        refine lv_if_eq (tgt := 56) hx hb dX12_kindHere_49 (by decide) (fun hc12 => ?_) (fun hc12 => ?_)
        · replace hw := hw.1 hc12
          refine lv_aload_n hx hb dX12_kindHere_56 rfl (lv_at hl 0 rfl) ?_
          refine lv_ldc2 (v := 7111535836) hx hb hown lk4 dX12_kindHere_57 ?_
          refine k_afti (va_runV (As := [.long (7111535836 : Int64)]) (rest := []) ⟨hx, hb, hml, hown, hts⟩ (c_X12_isWord l D kA ly n hn A (7111535836 : Int64) S10 _) (cwV 1 hts gX12_kindHere_X12_isWord rfl rfl rfl (by decide +kernel) ⟨(Nat.le_of_ble_eq_true rfl), (Nat.le_of_ble_eq_true rfl)⟩) ⟨k_blind, (k_recv hK hH (hn _ (by decide)) Er_0 rfl), k_pre hK hN hH hw⟩ rfl rfl hl.1 rfl (lv_room (Nat.le_of_ble_eq_true rfl)) dX12_kindHere_60 ⟨Nat.le_refl _, Nat.le_refl _⟩) hH (fun r14 S13 H locs hw hH => ?_)
          refine lv_if_eq (tgt := 70) hx hb dX12_kindHere_63 (by decide) (fun hc15 => ?_) (fun hc15 => ?_)
          · replace hw := hw.1 hc15
            refine lv_aload_n hx hb dX12_kindHere_70 rfl (lv_at hl 0 rfl) ?_
            refine lv_ldc2 (v := 191686599) hx hb hown lk5 dX12_kindHere_71 ?_
            refine k_afti (va_runV (As := [.long (191686599 : Int64)]) (rest := []) ⟨hx, hb, hml, hown, hts⟩ (c_X12_isWord l D kA ly n hn A (191686599 : Int64) S13 _) (cwV 1 hts gX12_kindHere_X12_isWord rfl rfl rfl (by decide +kernel) ⟨(Nat.le_of_ble_eq_true rfl), (Nat.le_of_ble_eq_true rfl)⟩) ⟨k_blind, (k_recv hK hH (hn _ (by decide)) Er_0 rfl), k_pre hK hN hH hw⟩ rfl rfl hl.1 rfl (lv_room (Nat.le_of_ble_eq_true rfl)) dX12_kindHere_74 ⟨Nat.le_refl _, Nat.le_refl _⟩) hH (fun r17 S16 H locs hw hH => ?_)
            refine lv_if_eq (tgt := 84) hx hb dX12_kindHere_77 (by decide) (fun hc18 => ?_) (fun hc18 => ?_)
            · replace hw := hw.1 hc18
              refine lv_iconst (v := -1) hx hb dX12_kindHere_84 (by decide +kernel) ?_
              exact k_iret hx hb hr hlocks hK hN hH hw dX12_kindHere_85
            · replace hw := hw.2 hc18
              refine lv_iconst (v := 5) hx hb dX12_kindHere_80 (by decide +kernel) ?_
              refine lv_goto (tgt := 85) hx hb dX12_kindHere_81 (by decide) ?_
              exact k_iret hx hb hr hlocks hK hN hH hw dX12_kindHere_85
          · replace hw := hw.2 hc15
            refine lv_iconst (v := 4) hx hb dX12_kindHere_66 (by decide +kernel) ?_
            refine lv_goto (tgt := 85) hx hb dX12_kindHere_67 (by decide) ?_
            exact k_iret hx hb hr hlocks hK hN hH hw dX12_kindHere_85
        · replace hw := hw.2 hc12
          refine lv_iconst (v := 3) hx hb dX12_kindHere_52 (by decide +kernel) ?_
          refine lv_goto (tgt := 85) hx hb dX12_kindHere_53 (by decide) ?_
          exact k_iret hx hb hr hlocks hK hN hH hw dX12_kindHere_85
      · replace hw := hw.2 hc9
        refine lv_iconst (v := 2) hx hb dX12_kindHere_38 (by decide +kernel) ?_
        refine lv_goto (tgt := 85) hx hb dX12_kindHere_39 (by decide) ?_
        exact k_iret hx hb hr hlocks hK hN hH hw dX12_kindHere_85
    · replace hw := hw.2 hc6
      refine lv_iconst (v := 1) hx hb dX12_kindHere_24 (by decide +kernel) ?_
      refine lv_goto (tgt := 85) hx hb dX12_kindHere_25 (by decide) ?_
      exact k_iret hx hb hr hlocks hK hN hH hw dX12_kindHere_85
  · replace hw := hw.2 hc3
    refine lv_iconst (v := 0) hx hb dX12_kindHere_10 (by decide +kernel) ?_
    refine lv_goto (tgt := 85) hx hb dX12_kindHere_11 (by decide) ?_
    exact k_iret hx hb hr hlocks hK hN hH hw dX12_kindHere_85
def wp_X12_wantNumber (a1 : Int32) (a2 : Int32) (S : St) (Q : Int32 → St → Prop) : Prop := (∀ t1 : Int32, t1 = (gI S 0 11) → (((gI S 0 12) = 0 → (∀ S3 : St, S3 = sI S 0 12 (0 : Int32) → (((gI S3 0 12) = 0 → Q t1 S3) ∧ (¬ (gI S3 0 12) = 0 → wp_X12_advance S3 (fun S5 => Q t1 S5))))) ∧ (¬ (gI S 0 12) = 0 → (((gI S 0 7) = (2 : Int32) → wp_X12_in t1 a1 a2 S (fun r11 S10 => ((r11 = 0 → (∀ S13 : St, S13 = sI S10 0 12 (0 : Int32) → (((gI S13 0 12) = 0 → Q t1 S13) ∧ (¬ (gI S13 0 12) = 0 → wp_X12_advance S13 (fun S15 => Q t1 S15))))) ∧ (¬ r11 = 0 → (∀ S16 : St, S16 = sI S10 0 12 (1 : Int32) → (((gI S16 0 12) = 0 → Q t1 S16) ∧ (¬ (gI S16 0 12) = 0 → wp_X12_advance S16 (fun S18 => Q t1 S18)))))))) ∧ (¬ (gI S 0 7) = (2 : Int32) → (∀ S7 : St, S7 = sI S 0 12 (0 : Int32) → (((gI S7 0 12) = 0 → Q t1 S7) ∧ (¬ (gI S7 0 12) = 0 → wp_X12_advance S7 (fun S9 => Q t1 S9)))))))))
set_option maxHeartbeats 4000000 in
set_option maxRecDepth 100000 in
theorem c_X12_wantNumber (l : Launch) (D : va_G) (kA : Nat → ClassId) (ly : Nat → Nat) (n : List Nat) (hn : ∀ c, c < 20 → c ∈ n) (A : Nat → Prop) (a1 : Int32) (a2 : Int32) : Ci l yX12_wantNumber wsX12_wantNumber 3 63 (Gp D (Er kA ly) ly n A kA) A [.ref (ly 0), .int a1, .int a2] (wp_X12_wantNumber a1 a2) := by
  intro S Q
  refine Met.ofW (cc := cX12_wantNumber) (maxL := 4) (ret := (some .int)) (by decide) rfl ?_
  intro p e s m args below meth c s₁ B hml hv
  obtain ⟨rfl, ⟨hP, hD, hK, hN⟩, hw⟩ := hv
  have hx := B.exec
  have hb := B.bytes
  have hr := B.returns
  have hts := atoms_spec (ws := wsX12_wantNumber) B.pre
  have hown : s.vm.findClass RX12 = some m.cls := findClass_of_methodNamed B.named
  have hlocks := B.notSynchronized
  have hH : Hp D (Er kA ly) ly n A s.heap S s.heap [] := ⟨hP, hD, va_S.rf⟩
  have hiX12 : ∀ w ∈ u_ws RX12 TX12 39, w ∈ wsX12_wantNumber := by decide +kernel
  have lk0 := hts (.fieldLink RX12 108 "SlowPanesModel" "value" "I") (by decide +kernel)
  have lk1 := hts (.fieldLink RX12 133 "SlowPanesModel" "good" "Z") (by decide +kernel)
  have lk2 := hts (.fieldLink RX12 101 "SlowPanesModel" "sort" "I") (by decide +kernel)
  have hl := lv_entry ([.ref (ly 0), .int a1, .int a2]) (n := 4) (Nat.le_of_ble_eq_true rfl)
  rw [lg_entry_eq]
  generalize (lg_sl ([.ref (ly 0), .int a1, .int a2]) ++ List.replicate (4 - (lg_sl ([.ref (ly 0), .int a1, .int a2])).length) Slot.unset).toArray = ls at hl ⊢
  have hl : lv_has ls 4 [(0, .ref (ly 0)), (1, .int a1), (2, .int a2)] := hl
  rw [wp_X12_wantNumber] at hw
  refine lv_aload_n hx hb dX12_wantNumber_0 rfl (lv_at hl 0 rfl) ?_
  refine gf_r_11 hx hb hts hiX12 hown hK hn hH lk0 dX12_wantNumber_1 ?_
  refine lv_topi (fun t1 et1 => ?_)
  replace hw := hw t1 et1
  refine lv_istore_n (lv' := [(3, .int t1), (0, .ref (ly 0)), (1, .int a1), (2, .int a2)]) hx hb dX12_wantNumber_4 rfl hl (by decide) rfl (fun ls hl => ?_)
  refine lv_aload_n hx hb dX12_wantNumber_5 rfl (lv_at hl 1 rfl) ?_
  refine lv_aload_n hx hb dX12_wantNumber_6 rfl (lv_at hl 1 rfl) ?_
  refine gf_r_12 hx hb hts hiX12 hown hK hn hH lk1 dX12_wantNumber_7 ?_
  refine lv_if_eq (tgt := 34) hx hb dX12_wantNumber_10 (by decide) (fun hc2 => ?_) (fun hc2 => ?_)
  · replace hw := hw.1 hc2
    refine lv_iconst (v := 0) hx hb dX12_wantNumber_34 (by decide +kernel) ?_
    refine pf_r_12 hx hb hts hiX12 hown hK hn hH lk1 isB_0 dX12_wantNumber_35 (fun S3 H locs eS3 hH => ?_)
    replace hw := hw S3 eS3
    refine lv_aload_n hx hb dX12_wantNumber_38 rfl (lv_at hl 1 rfl) ?_
    refine gf_r_12 hx hb hts hiX12 hown hK hn hH lk1 dX12_wantNumber_39 ?_
    refine lv_if_eq (tgt := 49) hx hb dX12_wantNumber_42 (by decide) (fun hc4 => ?_) (fun hc4 => ?_)
    · replace hw := hw.1 hc4
      refine lv_iload_n hx hb dX12_wantNumber_49 rfl (lv_at hl 0 rfl) ?_
      exact k_iret hx hb hr hlocks hK hN hH hw dX12_wantNumber_50
    · replace hw := hw.2 hc4
      refine lv_aload_n hx hb dX12_wantNumber_45 rfl (lv_at hl 1 rfl) ?_
      refine k_aftv (va_runV (As := []) (rest := []) ⟨hx, hb, hml, hown, hts⟩ (c_X12_advance l D kA ly n hn A S3 _) (cwV 0 hts gX12_wantNumber_X12_advance rfl rfl rfl (by decide +kernel) ⟨(Nat.le_of_ble_eq_true rfl), (Nat.le_of_ble_eq_true rfl)⟩) ⟨k_blind, (k_recv hK hH (hn _ (by decide)) Er_0 rfl), k_pre hK hN hH hw⟩ rfl rfl hl.1 rfl (lv_room (Nat.le_of_ble_eq_true rfl)) dX12_wantNumber_46 ⟨Nat.le_refl _, Nat.le_refl _⟩) hH (fun S5 H locs hw hH => ?_)
      refine lv_iload_n hx hb dX12_wantNumber_49 rfl (lv_at hl 0 rfl) ?_
      exact k_iret hx hb hr hlocks hK hN hH hw dX12_wantNumber_50
  · replace hw := hw.2 hc2
    refine lv_aload_n hx hb dX12_wantNumber_13 rfl (lv_at hl 1 rfl) ?_
    refine gf_r_7 hx hb hts hiX12 hown hK hn hH lk2 dX12_wantNumber_14 ?_
    refine lv_iconst (v := 2) hx hb dX12_wantNumber_17 (by decide +kernel) ?_
    refine lv_icmp_ne (tgt := 34) hx hb dX12_wantNumber_18 (by decide) (fun hc6 => ?_) (fun hc6 => ?_)
    · replace hw := hw.2 hc6
      refine lv_iconst (v := 0) hx hb dX12_wantNumber_34 (by decide +kernel) ?_
      refine pf_r_12 hx hb hts hiX12 hown hK hn hH lk1 isB_0 dX12_wantNumber_35 (fun S7 H locs eS7 hH => ?_)
      replace hw := hw S7 eS7
      refine lv_aload_n hx hb dX12_wantNumber_38 rfl (lv_at hl 1 rfl) ?_
      refine gf_r_12 hx hb hts hiX12 hown hK hn hH lk1 dX12_wantNumber_39 ?_
      refine lv_if_eq (tgt := 49) hx hb dX12_wantNumber_42 (by decide) (fun hc8 => ?_) (fun hc8 => ?_)
      · replace hw := hw.1 hc8
        refine lv_iload_n hx hb dX12_wantNumber_49 rfl (lv_at hl 0 rfl) ?_
        exact k_iret hx hb hr hlocks hK hN hH hw dX12_wantNumber_50
      · replace hw := hw.2 hc8
        refine lv_aload_n hx hb dX12_wantNumber_45 rfl (lv_at hl 1 rfl) ?_
        refine k_aftv (va_runV (As := []) (rest := []) ⟨hx, hb, hml, hown, hts⟩ (c_X12_advance l D kA ly n hn A S7 _) (cwV 0 hts gX12_wantNumber_X12_advance rfl rfl rfl (by decide +kernel) ⟨(Nat.le_of_ble_eq_true rfl), (Nat.le_of_ble_eq_true rfl)⟩) ⟨k_blind, (k_recv hK hH (hn _ (by decide)) Er_0 rfl), k_pre hK hN hH hw⟩ rfl rfl hl.1 rfl (lv_room (Nat.le_of_ble_eq_true rfl)) dX12_wantNumber_46 ⟨Nat.le_refl _, Nat.le_refl _⟩) hH (fun S9 H locs hw hH => ?_)
        refine lv_iload_n hx hb dX12_wantNumber_49 rfl (lv_at hl 0 rfl) ?_
        exact k_iret hx hb hr hlocks hK hN hH hw dX12_wantNumber_50
    · replace hw := hw.1 hc6
      refine lv_iload_n hx hb dX12_wantNumber_21 rfl (lv_at hl 0 rfl) ?_
      refine lv_iload_n hx hb dX12_wantNumber_22 rfl (lv_at hl 2 rfl) ?_
      refine lv_iload_n hx hb dX12_wantNumber_23 rfl (lv_at hl 3 rfl) ?_
      refine k_afti (va_runS (As := [.int t1, .int a1, .int a2]) (rest := [.ref (ly 0)]) ⟨hx, hb, hml, hown, hts⟩ (c_X12_in l D kA ly n hn A t1 a1 a2 S _) (va_cwS 3 hts gX12_wantNumber_X12_in rfl rfl rfl (by decide +kernel) ⟨(Nat.le_of_ble_eq_true rfl), (Nat.le_of_ble_eq_true rfl)⟩) ⟨k_blind, k_pre hK hN hH hw⟩ rfl rfl hl.1 rfl (lv_room (Nat.le_of_ble_eq_true rfl)) dX12_wantNumber_24 ⟨Nat.le_refl _, Nat.le_refl _⟩) hH (fun r11 S10 H locs hw hH => ?_)
      refine lv_if_eq (tgt := 34) hx hb dX12_wantNumber_27 (by decide) (fun hc12 => ?_) (fun hc12 => ?_)
      · replace hw := hw.1 hc12
        refine lv_iconst (v := 0) hx hb dX12_wantNumber_34 (by decide +kernel) ?_
        refine pf_r_12 hx hb hts hiX12 hown hK hn hH lk1 isB_0 dX12_wantNumber_35 (fun S13 H locs eS13 hH => ?_)
        replace hw := hw S13 eS13
        refine lv_aload_n hx hb dX12_wantNumber_38 rfl (lv_at hl 1 rfl) ?_
        refine gf_r_12 hx hb hts hiX12 hown hK hn hH lk1 dX12_wantNumber_39 ?_
        refine lv_if_eq (tgt := 49) hx hb dX12_wantNumber_42 (by decide) (fun hc14 => ?_) (fun hc14 => ?_)
        · replace hw := hw.1 hc14
          refine lv_iload_n hx hb dX12_wantNumber_49 rfl (lv_at hl 0 rfl) ?_
          exact k_iret hx hb hr hlocks hK hN hH hw dX12_wantNumber_50
        · replace hw := hw.2 hc14
          refine lv_aload_n hx hb dX12_wantNumber_45 rfl (lv_at hl 1 rfl) ?_
          refine k_aftv (va_runV (As := []) (rest := []) ⟨hx, hb, hml, hown, hts⟩ (c_X12_advance l D kA ly n hn A S13 _) (cwV 0 hts gX12_wantNumber_X12_advance rfl rfl rfl (by decide +kernel) ⟨(Nat.le_of_ble_eq_true rfl), (Nat.le_of_ble_eq_true rfl)⟩) ⟨k_blind, (k_recv hK hH (hn _ (by decide)) Er_0 rfl), k_pre hK hN hH hw⟩ rfl rfl hl.1 rfl (lv_room (Nat.le_of_ble_eq_true rfl)) dX12_wantNumber_46 ⟨Nat.le_refl _, Nat.le_refl _⟩) hH (fun S15 H locs hw hH => ?_)
          refine lv_iload_n hx hb dX12_wantNumber_49 rfl (lv_at hl 0 rfl) ?_
          exact k_iret hx hb hr hlocks hK hN hH hw dX12_wantNumber_50
      · replace hw := hw.2 hc12
        refine lv_iconst (v := 1) hx hb dX12_wantNumber_30 (by decide +kernel) ?_
        refine lv_goto (tgt := 35) hx hb dX12_wantNumber_31 (by decide) ?_
        refine pf_r_12 hx hb hts hiX12 hown hK hn hH lk1 isB_1 dX12_wantNumber_35 (fun S16 H locs eS16 hH => ?_)
        replace hw := hw S16 eS16
        refine lv_aload_n hx hb dX12_wantNumber_38 rfl (lv_at hl 1 rfl) ?_
        refine gf_r_12 hx hb hts hiX12 hown hK hn hH lk1 dX12_wantNumber_39 ?_
        refine lv_if_eq (tgt := 49) hx hb dX12_wantNumber_42 (by decide) (fun hc17 => ?_) (fun hc17 => ?_)
        · replace hw := hw.1 hc17
          refine lv_iload_n hx hb dX12_wantNumber_49 rfl (lv_at hl 0 rfl) ?_
          exact k_iret hx hb hr hlocks hK hN hH hw dX12_wantNumber_50
        · replace hw := hw.2 hc17
          refine lv_aload_n hx hb dX12_wantNumber_45 rfl (lv_at hl 1 rfl) ?_
          refine k_aftv (va_runV (As := []) (rest := []) ⟨hx, hb, hml, hown, hts⟩ (c_X12_advance l D kA ly n hn A S16 _) (cwV 0 hts gX12_wantNumber_X12_advance rfl rfl rfl (by decide +kernel) ⟨(Nat.le_of_ble_eq_true rfl), (Nat.le_of_ble_eq_true rfl)⟩) ⟨k_blind, (k_recv hK hH (hn _ (by decide)) Er_0 rfl), k_pre hK hN hH hw⟩ rfl rfl hl.1 rfl (lv_room (Nat.le_of_ble_eq_true rfl)) dX12_wantNumber_46 ⟨Nat.le_refl _, Nat.le_refl _⟩) hH (fun S18 H locs hw hH => ?_)
          refine lv_iload_n hx hb dX12_wantNumber_49 rfl (lv_at hl 0 rfl) ?_
          exact k_iret hx hb hr hlocks hK hN hH hw dX12_wantNumber_50
def wp_X12_wantMark (a1 : Int32) (S : St) (Q : St → Prop) : Prop := (((gI S 0 12) = 0 → (∀ S2 : St, S2 = sI S 0 12 (0 : Int32) → (((gI S2 0 12) = 0 → Q S2) ∧ (¬ (gI S2 0 12) = 0 → wp_X12_advance S2 (fun S4 => Q S4))))) ∧ (¬ (gI S 0 12) = 0 → wp_X12_isMark a1 S (fun r6 S5 => ((r6 = 0 → (∀ S8 : St, S8 = sI S5 0 12 (0 : Int32) → (((gI S8 0 12) = 0 → Q S8) ∧ (¬ (gI S8 0 12) = 0 → wp_X12_advance S8 (fun S10 => Q S10))))) ∧ (¬ r6 = 0 → (∀ S11 : St, S11 = sI S5 0 12 (1 : Int32) → (((gI S11 0 12) = 0 → Q S11) ∧ (¬ (gI S11 0 12) = 0 → wp_X12_advance S11 (fun S13 => Q S13)))))))))
set_option maxHeartbeats 4000000 in
set_option maxRecDepth 100000 in
theorem c_X12_wantMark (l : Launch) (D : va_G) (kA : Nat → ClassId) (ly : Nat → Nat) (n : List Nat) (hn : ∀ c, c < 20 → c ∈ n) (A : Nat → Prop) (a1 : Int32) : Cv l yX12_wantMark wsX12_wantMark 3 63 (Gp D (Er kA ly) ly n A kA) A [.ref (ly 0), .int a1] (wp_X12_wantMark a1) := by
  intro S Q
  refine Met.ofW (cc := cX12_wantMark) (maxL := 2) (ret := none) (by decide) rfl ?_
  intro p e s m args below meth c s₁ B hml hv
  obtain ⟨rfl, ⟨hP, hD, hK, hN⟩, hw⟩ := hv
  have hx := B.exec
  have hb := B.bytes
  have hr := B.returns
  have hts := atoms_spec (ws := wsX12_wantMark) B.pre
  have hown : s.vm.findClass RX12 = some m.cls := findClass_of_methodNamed B.named
  have hlocks := B.notSynchronized
  have hH : Hp D (Er kA ly) ly n A s.heap S s.heap [] := ⟨hP, hD, va_S.rf⟩
  have hiX12 : ∀ w ∈ u_ws RX12 TX12 39, w ∈ wsX12_wantMark := by decide +kernel
  have lk0 := hts (.fieldLink RX12 133 "SlowPanesModel" "good" "Z") (by decide +kernel)
  have hl := lv_entry ([.ref (ly 0), .int a1]) (n := 2) (Nat.le_of_ble_eq_true rfl)
  rw [lg_entry_eq]
  generalize (lg_sl ([.ref (ly 0), .int a1]) ++ List.replicate (2 - (lg_sl ([.ref (ly 0), .int a1])).length) Slot.unset).toArray = ls at hl ⊢
  have hl : lv_has ls 2 [(0, .ref (ly 0)), (1, .int a1)] := hl
  rw [wp_X12_wantMark] at hw
  refine lv_aload_n hx hb dX12_wantMark_0 rfl (lv_at hl 0 rfl) ?_
  refine lv_aload_n hx hb dX12_wantMark_1 rfl (lv_at hl 0 rfl) ?_
  refine gf_r_12 hx hb hts hiX12 hown hK hn hH lk0 dX12_wantMark_2 ?_
  refine lv_if_eq (tgt := 20) hx hb dX12_wantMark_5 (by decide) (fun hc1 => ?_) (fun hc1 => ?_)
  · replace hw := hw.1 hc1
    refine lv_iconst (v := 0) hx hb dX12_wantMark_20 (by decide +kernel) ?_
    refine pf_r_12 hx hb hts hiX12 hown hK hn hH lk0 isB_0 dX12_wantMark_21 (fun S2 H locs eS2 hH => ?_)
    replace hw := hw S2 eS2
    refine lv_aload_n hx hb dX12_wantMark_24 rfl (lv_at hl 0 rfl) ?_
    refine gf_r_12 hx hb hts hiX12 hown hK hn hH lk0 dX12_wantMark_25 ?_
    refine lv_if_eq (tgt := 35) hx hb dX12_wantMark_28 (by decide) (fun hc3 => ?_) (fun hc3 => ?_)
    · replace hw := hw.1 hc3
      exact k_vret hx hb hr hlocks hK hN hH hw dX12_wantMark_35
    · replace hw := hw.2 hc3
      refine lv_aload_n hx hb dX12_wantMark_31 rfl (lv_at hl 0 rfl) ?_
      refine k_aftv (va_runV (As := []) (rest := []) ⟨hx, hb, hml, hown, hts⟩ (c_X12_advance l D kA ly n hn A S2 _) (cwV 0 hts gX12_wantMark_X12_advance rfl rfl rfl (by decide +kernel) ⟨(Nat.le_of_ble_eq_true rfl), (Nat.le_of_ble_eq_true rfl)⟩) ⟨k_blind, (k_recv hK hH (hn _ (by decide)) Er_0 rfl), k_pre hK hN hH hw⟩ rfl rfl hl.1 rfl (lv_room (Nat.le_of_ble_eq_true rfl)) dX12_wantMark_32 ⟨Nat.le_refl _, Nat.le_refl _⟩) hH (fun S4 H locs hw hH => ?_)
      exact k_vret hx hb hr hlocks hK hN hH hw dX12_wantMark_35
  · replace hw := hw.2 hc1
    refine lv_aload_n hx hb dX12_wantMark_8 rfl (lv_at hl 0 rfl) ?_
    refine lv_iload_n hx hb dX12_wantMark_9 rfl (lv_at hl 1 rfl) ?_
    refine k_afti (va_runV (As := [.int a1]) (rest := [.ref (ly 0)]) ⟨hx, hb, hml, hown, hts⟩ (c_X12_isMark l D kA ly n hn A a1 S _) (cwV 1 hts gX12_wantMark_X12_isMark rfl rfl rfl (by decide +kernel) ⟨(Nat.le_of_ble_eq_true rfl), (Nat.le_of_ble_eq_true rfl)⟩) ⟨k_blind, (k_recv hK hH (hn _ (by decide)) Er_0 rfl), k_pre hK hN hH hw⟩ rfl rfl hl.1 rfl (lv_room (Nat.le_of_ble_eq_true rfl)) dX12_wantMark_10 ⟨Nat.le_refl _, Nat.le_refl _⟩) hH (fun r6 S5 H locs hw hH => ?_)
    refine lv_if_eq (tgt := 20) hx hb dX12_wantMark_13 (by decide) (fun hc7 => ?_) (fun hc7 => ?_)
    · replace hw := hw.1 hc7
      refine lv_iconst (v := 0) hx hb dX12_wantMark_20 (by decide +kernel) ?_
      refine pf_r_12 hx hb hts hiX12 hown hK hn hH lk0 isB_0 dX12_wantMark_21 (fun S8 H locs eS8 hH => ?_)
      replace hw := hw S8 eS8
      refine lv_aload_n hx hb dX12_wantMark_24 rfl (lv_at hl 0 rfl) ?_
      refine gf_r_12 hx hb hts hiX12 hown hK hn hH lk0 dX12_wantMark_25 ?_
      refine lv_if_eq (tgt := 35) hx hb dX12_wantMark_28 (by decide) (fun hc9 => ?_) (fun hc9 => ?_)
      · replace hw := hw.1 hc9
        exact k_vret hx hb hr hlocks hK hN hH hw dX12_wantMark_35
      · replace hw := hw.2 hc9
        refine lv_aload_n hx hb dX12_wantMark_31 rfl (lv_at hl 0 rfl) ?_
        refine k_aftv (va_runV (As := []) (rest := []) ⟨hx, hb, hml, hown, hts⟩ (c_X12_advance l D kA ly n hn A S8 _) (cwV 0 hts gX12_wantMark_X12_advance rfl rfl rfl (by decide +kernel) ⟨(Nat.le_of_ble_eq_true rfl), (Nat.le_of_ble_eq_true rfl)⟩) ⟨k_blind, (k_recv hK hH (hn _ (by decide)) Er_0 rfl), k_pre hK hN hH hw⟩ rfl rfl hl.1 rfl (lv_room (Nat.le_of_ble_eq_true rfl)) dX12_wantMark_32 ⟨Nat.le_refl _, Nat.le_refl _⟩) hH (fun S10 H locs hw hH => ?_)
        exact k_vret hx hb hr hlocks hK hN hH hw dX12_wantMark_35
    · replace hw := hw.2 hc7
      refine lv_iconst (v := 1) hx hb dX12_wantMark_16 (by decide +kernel) ?_
      refine lv_goto (tgt := 21) hx hb dX12_wantMark_17 (by decide) ?_
      refine pf_r_12 hx hb hts hiX12 hown hK hn hH lk0 isB_1 dX12_wantMark_21 (fun S11 H locs eS11 hH => ?_)
      replace hw := hw S11 eS11
      refine lv_aload_n hx hb dX12_wantMark_24 rfl (lv_at hl 0 rfl) ?_
      refine gf_r_12 hx hb hts hiX12 hown hK hn hH lk0 dX12_wantMark_25 ?_
      refine lv_if_eq (tgt := 35) hx hb dX12_wantMark_28 (by decide) (fun hc12 => ?_) (fun hc12 => ?_)
      · replace hw := hw.1 hc12
        exact k_vret hx hb hr hlocks hK hN hH hw dX12_wantMark_35
      · replace hw := hw.2 hc12
        refine lv_aload_n hx hb dX12_wantMark_31 rfl (lv_at hl 0 rfl) ?_
        refine k_aftv (va_runV (As := []) (rest := []) ⟨hx, hb, hml, hown, hts⟩ (c_X12_advance l D kA ly n hn A S11 _) (cwV 0 hts gX12_wantMark_X12_advance rfl rfl rfl (by decide +kernel) ⟨(Nat.le_of_ble_eq_true rfl), (Nat.le_of_ble_eq_true rfl)⟩) ⟨k_blind, (k_recv hK hH (hn _ (by decide)) Er_0 rfl), k_pre hK hN hH hw⟩ rfl rfl hl.1 rfl (lv_room (Nat.le_of_ble_eq_true rfl)) dX12_wantMark_32 ⟨Nat.le_refl _, Nat.le_refl _⟩) hH (fun S13 H locs hw hH => ?_)
        exact k_vret hx hb hr hlocks hK hN hH hw dX12_wantMark_35
