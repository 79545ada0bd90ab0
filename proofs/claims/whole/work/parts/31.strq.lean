def wl_X4_isWord_9  (K_9 : Int32 → St → Prop) : Nat → Int32 → St → Prop
  | 0, _, _ => False
  | fu_9 + 1, v2_9, S_9 => (((gI S_9 1 1) ≤ v2_9 → K_9 v2_9 S_9) ∧ (¬ (gI S_9 1 1) ≤ v2_9 → (vp_in v2_9 200 ∧ (((gA S_9 2 v2_9.toNatClampNeg) < (97 : Int32) → K_9 v2_9 S_9) ∧ (¬ (gA S_9 2 v2_9.toNatClampNeg) < (97 : Int32) → (vp_in v2_9 200 ∧ (((122 : Int32) < (gA S_9 2 v2_9.toNatClampNeg) → K_9 v2_9 S_9) ∧ (¬ (122 : Int32) < (gA S_9 2 v2_9.toNatClampNeg) → (∀ t8 : Int32, t8 = v2_9 + 1 → wl_X4_isWord_9 K_9 fu_9 t8 S_9)))))))))
def wl_X4_isWord_62 (a1 : Nat) (Q : Int32 → St → Prop) (K_62 : Int32 → St → Prop) : Nat → Int32 → St → Prop
  | 0, _, _ => False
  | fu_62 + 1, v3_62, S_62 => (((Int32.ofNat (txL a1)) ≤ v3_62 → K_62 v3_62 S_62) ∧ (¬ (Int32.ofNat (txL a1)) ≤ v3_62 → (vp_in ((gI S_62 1 2) + v3_62) 200 ∧ (vp_in v3_62 (txL a1) ∧ (((gA S_62 2 ((gI S_62 1 2) + v3_62).toNatClampNeg) = (txC a1 v3_62.toNatClampNeg) → (∀ t16 : Int32, t16 = v3_62 + 1 → wl_X4_isWord_62 a1 Q K_62 fu_62 t16 S_62)) ∧ (¬ (gA S_62 2 ((gI S_62 1 2) + v3_62).toNatClampNeg) = (txC a1 v3_62.toNatClampNeg) → Q (0 : Int32) S_62))))))
def wp_X4_isWord (a1 : Nat) (S : St) (Q : Int32 → St → Prop) : Prop := (a1 < 11 ∧ wp_X4_look S (fun S1 => (∀ t2 : Int32, t2 = (gI S1 1 2) → (∃ m_9 : Nat, wl_X4_isWord_9 (fun e2_9 S10 => (((e2_9 - (gI S10 1 2)) = (Int32.ofNat (txL a1)) → (∃ m_62 : Nat, wl_X4_isWord_62 a1 Q (fun e3_17 S18 => (∀ S19 : St, S19 = sI S18 1 2 e2_9 → Q (1 : Int32) S19)) m_62 (0 : Int32) S10)) ∧ (¬ (e2_9 - (gI S10 1 2)) = (Int32.ofNat (txL a1)) → Q (0 : Int32) S10))) m_9 t2 S1))))
set_option maxHeartbeats 4000000 in
set_option maxRecDepth 100000 in
theorem c_X4_isWord (l : Launch) (D : va_G) (kA : Nat → ClassId) (ly : Nat → Nat) (n : List Nat) (hn : ∀ c, c < 59 → c ∈ n) (A : Nat → Prop) (adK adV : Nat → Nat) (a1 : Nat) : CiS l yX4_isWord wsX4_isWord 4 85 (Gp D (Ec kA ly) ly n A kA) adK adV A [.ref (ly 1), .ref (adK a1)] (wp_X4_isWord a1) := by
  intro S Q
  refine Met.ofW (cc := cX4_isWord) (maxL := 4) (ret := (some .boolean)) (by decide) rfl ?_
  intro p e s m args below meth c s₁ B hml hv
  obtain ⟨rfl, ⟨⟨hP, hD, hK, hN⟩, hX⟩, hw⟩ := hv
  have hx := B.exec
  have hb := B.bytes
  have hr := B.returns
  have hts := atoms_spec (ws := wsX4_isWord) B.pre
  have hown : s.vm.findClass RX4 = some m.cls := findClass_of_methodNamed B.named
  have hlocks := B.notSynchronized
  have hH : Hp D (Ec kA ly) ly n A s.heap S s.heap [] := ⟨hP, hD, va_S.rf⟩
  have hiX4 : ∀ w ∈ u_ws RX4 TX4 5, w ∈ wsX4_isWord := by decide +kernel
  have lk0 := hts (.fieldLink RX4 19 "SlowPanes$Quarry" "at" "I") (by decide +kernel)
  have lk1 := hts (.fieldLink RX4 15 "SlowPanes$Quarry" "length" "I") (by decide +kernel)
  have lk2 := hts (.fieldLink RX4 9 "SlowPanes$Quarry" "bytes" "[I") (by decide +kernel)
  have hl := lv_entry ([.ref (ly 1), .ref (adK a1)]) (n := 4) (Nat.le_of_ble_eq_true rfl)
  rw [lg_entry_eq]
  generalize (lg_sl ([.ref (ly 1), .ref (adK a1)]) ++ List.replicate (4 - (lg_sl ([.ref (ly 1), .ref (adK a1)])).length) Slot.unset).toArray = ls at hl ⊢
  have hl : lv_has ls 4 [(0, .ref (ly 1)), (1, .ref (adK a1))] := hl
  rw [wp_X4_isWord] at hw
  obtain ⟨ha1, hw⟩ := hw
  refine lv_aload_n hx hb dX4_isWord_0 rfl (lv_at hl 0 rfl) ?_
  refine k_aftv (va_runV (As := []) (rest := []) ⟨hx, hb, hml, hown, hts⟩ (c_X4_look l D kA ly n hn A S _) (cwV 0 hts gX4_isWord_X4_look rfl rfl rfl (by decide +kernel) ⟨(Nat.le_of_ble_eq_true rfl), (Nat.le_of_ble_eq_true rfl)⟩) ⟨k_blind, (k_recv hK hH (lt_n hn (by decide)) Ec_1 rfl), k_pre hK hN hH hw⟩ rfl rfl hl.1 rfl (lv_room (Nat.le_of_ble_eq_true rfl)) dX4_isWord_1 ⟨Nat.le_refl _, Nat.le_refl _⟩) hH (fun S1 H locs hw hH => ?_)
  refine lv_aload_n hx hb dX4_isWord_4 rfl (lv_at hl 0 rfl) ?_
  refine gf_tape_2 hx hb hts hiX4 hown hK hn hH lk0 dX4_isWord_5 ?_
  refine lv_topi (fun t2 et2 => ?_)
  replace hw := hw t2 et2
  refine lv_istore_n (lv' := [(2, .int t2), (0, .ref (ly 1)), (1, .ref (adK a1))]) hx hb dX4_isWord_8 rfl hl (by decide) rfl (fun ls hl => ?_)
  have L_9 : ∀ (K_9 : Int32 → St → Prop) (hk_9 : ∀ (v2_9 : Int32) (S_9 : St) (H : Heap) (locs : List Loc) (ls : Array Slot), K_9 v2_9 S_9 → Hp D (Ec kA ly) ly n A s.heap S_9 H locs → lv_has ls 4 [(0, .ref (ly 1)), (1, .ref (adK a1)), (2, .int v2_9)] → W p l e (headSpec wsX4_isWord { frames := 4, cells := 0, slots := 0, locals := 85 }).room s m [.ref (ly 1), .ref (adK a1)].toArray below meth c H locs 0 0 (MQ below (va_Qi Q (Gp D (Ec kA ly) ly n A kA) A) [.ref (ly 1), .ref (adK a1)].toArray s 0 0 A) (F0 m 45 ls [])) (fu_9 : Nat) (v2_9 : Int32) (S_9 : St) (H : Heap) (locs : List Loc) (ls : Array Slot), wl_X4_isWord_9 K_9 fu_9 v2_9 S_9 → Hp D (Ec kA ly) ly n A s.heap S_9 H locs → lv_has ls 4 [(0, .ref (ly 1)), (1, .ref (adK a1)), (2, .int v2_9)] → W p l e (headSpec wsX4_isWord { frames := 4, cells := 0, slots := 0, locals := 85 }).room s m [.ref (ly 1), .ref (adK a1)].toArray below meth c H locs 0 0 (MQ below (va_Qi Q (Gp D (Ec kA ly) ly n A kA) A) [.ref (ly 1), .ref (adK a1)].toArray s 0 0 A) (F0 m 9 ls []) := by
    intro K_9 hk_9 fu_9
    induction fu_9 with
    | zero => intro v2_9 S_9 H locs ls hw hH hl; rw [wl_X4_isWord_9] at hw; exact hw.elim
    | succ fu_9 ih_9 =>
      intro v2_9 S_9 H locs ls hw hH hl
      rw [wl_X4_isWord_9] at hw
      refine lv_iload_n hx hb dX4_isWord_9 rfl (lv_at hl 2 rfl) ?_
      refine lv_aload_n hx hb dX4_isWord_10 rfl (lv_at hl 0 rfl) ?_
      refine gf_tape_1 hx hb hts hiX4 hown hK hn hH lk1 dX4_isWord_11 ?_
      refine lv_icmp_ge (tgt := 45) hx hb dX4_isWord_14 (by decide) (fun hc3 => ?_) (fun hc3 => ?_)
      · replace hw := hw.1 hc3
        exact hk_9 v2_9 S_9 _ _ ls hw hH (lv_sub hl [0, 1, 2] rfl)
      · replace hw := hw.2 hc3
        refine lv_aload_n hx hb dX4_isWord_17 rfl (lv_at hl 0 rfl) ?_
        refine gf_tape_0 hx hb hts hiX4 hown hK hn hH lk2 dX4_isWord_18 ?_
        refine lv_iload_n hx hb dX4_isWord_21 rfl (lv_at hl 2 rfl) ?_
        obtain ⟨hi_4, hw⟩ := hw
        refine k_ild hx hb hK hH (lt_n hn (by decide)) Ec_2 hi_4 dX4_isWord_22 ?_
        refine lv_bipush (v := 97) hx hb dX4_isWord_23 (by decide +kernel) ?_
        refine lv_icmp_lt (tgt := 45) hx hb dX4_isWord_25 (by decide) (fun hc5 => ?_) (fun hc5 => ?_)
        · replace hw := hw.1 hc5
          exact hk_9 v2_9 S_9 _ _ ls hw hH (lv_sub hl [0, 1, 2] rfl)
        · replace hw := hw.2 hc5
          refine lv_aload_n hx hb dX4_isWord_28 rfl (lv_at hl 0 rfl) ?_
          refine gf_tape_0 hx hb hts hiX4 hown hK hn hH lk2 dX4_isWord_29 ?_
          refine lv_iload_n hx hb dX4_isWord_32 rfl (lv_at hl 2 rfl) ?_
          obtain ⟨hi_6, hw⟩ := hw
          refine k_ild hx hb hK hH (lt_n hn (by decide)) Ec_2 hi_6 dX4_isWord_33 ?_
          refine lv_bipush (v := 122) hx hb dX4_isWord_34 (by decide +kernel) ?_
          refine lv_icmp_gt (tgt := 45) hx hb dX4_isWord_36 (by decide) (fun hc7 => ?_) (fun hc7 => ?_)
          · replace hw := hw.1 hc7
            exact hk_9 v2_9 S_9 _ _ ls hw hH (lv_sub hl [0, 1, 2] rfl)
          · replace hw := hw.2 hc7
            obtain ⟨t8, et8⟩ : ∃ y : Int32, y = v2_9 + 1 := ⟨_, rfl⟩
            replace hw := hw t8 et8
            refine lv_iinc (v := t8) (lv' := [(2, .int t8), (0, .ref (ly 1)), (1, .ref (adK a1))]) hx hb dX4_isWord_39 hl (k := 2) rfl (by rw [et8]; rfl) (by decide) rfl (fun ls hl => ?_)
            refine lv_goto (tgt := 9) hx hb dX4_isWord_42 (by decide) ?_
            exact ih_9 t8 S_9 _ _ ls hw hH (lv_sub hl [1, 2, 0] rfl)
  obtain ⟨m_9, hw⟩ := hw
  refine L_9 _ (fun e2_9 S10 H locs ls hw hH hl => ?_) m_9 t2 S1 _ _ ls hw hH (lv_sub hl [1, 2, 0] rfl)
  refine lv_iload_n hx hb dX4_isWord_45 rfl (lv_at hl 2 rfl) ?_
  refine lv_aload_n hx hb dX4_isWord_46 rfl (lv_at hl 0 rfl) ?_
  refine gf_tape_2 hx hb hts hiX4 hown hK hn hH lk0 dX4_isWord_47 ?_
  refine lv_isub hx hb dX4_isWord_50 ?_
  refine lv_aload_n hx hb dX4_isWord_51 rfl (lv_at hl 1 rfl) ?_
  refine k_aftJ (va_runV (As := []) (rest := [.int (e2_9 - (gI S10 1 2))]) ⟨hx, hb, hml, hown, hts⟩ (j_length l adK adV A a1 ha1) (cwV 0 hts gX4_isWord_J0_length_8abf5 rfl rfl rfl (by decide +kernel) ⟨(Nat.le_of_ble_eq_true rfl), (Nat.le_of_ble_eq_true rfl)⟩) ⟨j_blind, vk_recv hX.2.2.1 ha1 hH.2.2, j_pre hX hH.2.2⟩ rfl rfl hl.1 rfl (lv_room (Nat.le_of_ble_eq_true rfl)) dX4_isWord_52 ⟨Nat.le_refl _, Nat.le_refl _⟩) hH (fun H locs hH => ?_)
  refine lv_icmp_eq (tgt := 60) hx hb dX4_isWord_55 (by decide) (fun hc11 => ?_) (fun hc11 => ?_)
  · replace hw := hw.1 hc11
    refine lv_iconst (v := 0) hx hb dX4_isWord_60 (by decide +kernel) ?_
    refine lv_istore_n (lv' := [(3, .int (0 : Int32)), (0, .ref (ly 1)), (1, .ref (adK a1)), (2, .int e2_9)]) hx hb dX4_isWord_61 rfl hl (by decide) rfl (fun ls hl => ?_)
    have L_62 : ∀ (K_62 : Int32 → St → Prop) (hk_62 : ∀ (v3_62 : Int32) (S_62 : St) (H : Heap) (locs : List Loc) (ls : Array Slot), K_62 v3_62 S_62 → Hp D (Ec kA ly) ly n A s.heap S_62 H locs → lv_has ls 4 [(0, .ref (ly 1)), (1, .ref (adK a1)), (2, .int e2_9), (3, .int v3_62)] → W p l e (headSpec wsX4_isWord { frames := 4, cells := 0, slots := 0, locals := 85 }).room s m [.ref (ly 1), .ref (adK a1)].toArray below meth c H locs 0 0 (MQ below (va_Qi Q (Gp D (Ec kA ly) ly n A kA) A) [.ref (ly 1), .ref (adK a1)].toArray s 0 0 A) (F0 m 97 ls [])) (fu_62 : Nat) (v3_62 : Int32) (S_62 : St) (H : Heap) (locs : List Loc) (ls : Array Slot), wl_X4_isWord_62 a1 Q K_62 fu_62 v3_62 S_62 → Hp D (Ec kA ly) ly n A s.heap S_62 H locs → lv_has ls 4 [(0, .ref (ly 1)), (1, .ref (adK a1)), (2, .int e2_9), (3, .int v3_62)] → W p l e (headSpec wsX4_isWord { frames := 4, cells := 0, slots := 0, locals := 85 }).room s m [.ref (ly 1), .ref (adK a1)].toArray below meth c H locs 0 0 (MQ below (va_Qi Q (Gp D (Ec kA ly) ly n A kA) A) [.ref (ly 1), .ref (adK a1)].toArray s 0 0 A) (F0 m 62 ls []) := by
      intro K_62 hk_62 fu_62
      induction fu_62 with
      | zero => intro v3_62 S_62 H locs ls hw hH hl; rw [wl_X4_isWord_62] at hw; exact hw.elim
      | succ fu_62 ih_62 =>
        intro v3_62 S_62 H locs ls hw hH hl
        rw [wl_X4_isWord_62] at hw
        refine lv_iload_n hx hb dX4_isWord_62 rfl (lv_at hl 3 rfl) ?_
        refine lv_aload_n hx hb dX4_isWord_63 rfl (lv_at hl 1 rfl) ?_
        refine k_aftJ (va_runV (As := []) (rest := [.int v3_62]) ⟨hx, hb, hml, hown, hts⟩ (j_length l adK adV A a1 ha1) (cwV 0 hts gX4_isWord_J0_length_8abf5 rfl rfl rfl (by decide +kernel) ⟨(Nat.le_of_ble_eq_true rfl), (Nat.le_of_ble_eq_true rfl)⟩) ⟨j_blind, vk_recv hX.2.2.1 ha1 hH.2.2, j_pre hX hH.2.2⟩ rfl rfl hl.1 rfl (lv_room (Nat.le_of_ble_eq_true rfl)) dX4_isWord_64 ⟨Nat.le_refl _, Nat.le_refl _⟩) hH (fun H locs hH => ?_)
        refine lv_icmp_ge (tgt := 97) hx hb dX4_isWord_67 (by decide) (fun hc12 => ?_) (fun hc12 => ?_)
        · replace hw := hw.1 hc12
          exact hk_62 v3_62 S_62 _ _ ls hw hH (lv_sub hl [0, 1, 2, 3] rfl)
        · replace hw := hw.2 hc12
          refine lv_aload_n hx hb dX4_isWord_70 rfl (lv_at hl 0 rfl) ?_
          refine gf_tape_0 hx hb hts hiX4 hown hK hn hH lk2 dX4_isWord_71 ?_
          refine lv_aload_n hx hb dX4_isWord_74 rfl (lv_at hl 0 rfl) ?_
          refine gf_tape_2 hx hb hts hiX4 hown hK hn hH lk0 dX4_isWord_75 ?_
          refine lv_iload_n hx hb dX4_isWord_78 rfl (lv_at hl 3 rfl) ?_
          refine lv_iadd hx hb dX4_isWord_79 ?_
          obtain ⟨hi_13, hw⟩ := hw
          refine k_ild hx hb hK hH (lt_n hn (by decide)) Ec_2 hi_13 dX4_isWord_80 ?_
          refine lv_aload_n hx hb dX4_isWord_81 rfl (lv_at hl 1 rfl) ?_
          refine lv_iload_n hx hb dX4_isWord_82 rfl (lv_at hl 3 rfl) ?_
          obtain ⟨hi_14, hw⟩ := hw
          refine k_aftJ (va_runV (As := [.int v3_62]) (rest := [.int (gA S_62 2 ((gI S_62 1 2) + v3_62).toNatClampNeg)]) ⟨hx, hb, hml, hown, hts⟩ (j_charAt l adK adV A a1 ha1 v3_62 hi_14) (cwV 1 hts gX4_isWord_J0_charAt_5068e rfl rfl rfl (by decide +kernel) ⟨(Nat.le_of_ble_eq_true rfl), (Nat.le_of_ble_eq_true rfl)⟩) ⟨j_blind, vk_recv hX.2.2.1 ha1 hH.2.2, j_pre hX hH.2.2⟩ rfl rfl hl.1 rfl (lv_room (Nat.le_of_ble_eq_true rfl)) dX4_isWord_83 ⟨Nat.le_refl _, Nat.le_refl _⟩) hH (fun H locs hH => ?_)
          refine lv_icmp_eq (tgt := 91) hx hb dX4_isWord_86 (by decide) (fun hc15 => ?_) (fun hc15 => ?_)
          · replace hw := hw.1 hc15
            obtain ⟨t16, et16⟩ : ∃ y : Int32, y = v3_62 + 1 := ⟨_, rfl⟩
            replace hw := hw t16 et16
            refine lv_iinc (v := t16) (lv' := [(3, .int t16), (0, .ref (ly 1)), (1, .ref (adK a1)), (2, .int e2_9)]) hx hb dX4_isWord_91 hl (k := 3) rfl (by rw [et16]; rfl) (by decide) rfl (fun ls hl => ?_)
            refine lv_goto (tgt := 62) hx hb dX4_isWord_94 (by decide) ?_
            exact ih_62 t16 S_62 _ _ ls hw hH (lv_sub hl [1, 2, 3, 0] rfl)
          · replace hw := hw.2 hc15
            refine lv_iconst (v := 0) hx hb dX4_isWord_89 (by decide +kernel) ?_
            exact k_zret hx hb hr hlocks hK hN hH rfl hw dX4_isWord_90
    obtain ⟨m_62, hw⟩ := hw
    refine L_62 _ (fun e3_17 S18 H locs ls hw hH hl => ?_) m_62 (0 : Int32) S10 _ _ ls hw hH (lv_sub hl [1, 2, 3, 0] rfl)
    refine lv_aload_n hx hb dX4_isWord_97 rfl (lv_at hl 0 rfl) ?_
    refine lv_iload_n hx hb dX4_isWord_98 rfl (lv_at hl 2 rfl) ?_
    refine pf_tape_2 hx hb hts hiX4 hown hK hn hH lk0 dX4_isWord_99 (fun S19 H locs eS19 hH => ?_)
    replace hw := hw S19 eS19
    refine lv_iconst (v := 1) hx hb dX4_isWord_102 (by decide +kernel) ?_
    exact k_zret hx hb hr hlocks hK hN hH rfl hw dX4_isWord_103
  · replace hw := hw.2 hc11
    refine lv_iconst (v := 0) hx hb dX4_isWord_58 (by decide +kernel) ?_
    exact k_zret hx hb hr hlocks hK hN hH rfl hw dX4_isWord_59
def wp_X4_readKind  (S : St) (Q : Int32 → St → Prop) : Prop := wp_X4_isWord 0 S (fun r2 S1 => ((r2 = 0 → wp_X4_isWord 1 S1 (fun r5 S4 => ((r5 = 0 → wp_X4_isWord 2 S4 (fun r8 S7 => ((r8 = 0 → wp_X4_isWord 3 S7 (fun r11 S10 => ((r11 = 0 → wp_X4_isWord 4 S10 (fun r14 S13 => ((r14 = 0 → wp_X4_isWord 5 S13 (fun r17 S16 => ((r17 = 0 → Q (-1 : Int32) S16) ∧ (¬ r17 = 0 → Q (5 : Int32) S16)))) ∧ (¬ r14 = 0 → Q (4 : Int32) S13)))) ∧ (¬ r11 = 0 → Q (3 : Int32) S10)))) ∧ (¬ r8 = 0 → Q (2 : Int32) S7)))) ∧ (¬ r5 = 0 → Q (1 : Int32) S4)))) ∧ (¬ r2 = 0 → Q (0 : Int32) S1)))
set_option maxHeartbeats 4000000 in
set_option maxRecDepth 100000 in
theorem c_X4_readKind (l : Launch) (D : va_G) (kA : Nat → ClassId) (ly : Nat → Nat) (n : List Nat) (hn : ∀ c, c < 59 → c ∈ n) (A : Nat → Prop) (adK adV : Nat → Nat)  : CiS l yX4_readKind wsX4_readKind 5 108 (Gp D (Ec kA ly) ly n A kA) adK adV A [.ref (ly 1)] (wp_X4_readKind) := by
  intro S Q
  refine Met.ofW (cc := cX4_readKind) (maxL := 1) (ret := (some .int)) (by decide) rfl ?_
  intro p e s m args below meth c s₁ B hml hv
  obtain ⟨rfl, ⟨⟨hP, hD, hK, hN⟩, hX⟩, hw⟩ := hv
  have hx := B.exec
  have hb := B.bytes
  have hr := B.returns
  have hts := atoms_spec (ws := wsX4_readKind) B.pre
  have hown : s.vm.findClass RX4 = some m.cls := findClass_of_methodNamed B.named
  have hlocks := B.notSynchronized
  have hH : Hp D (Ec kA ly) ly n A s.heap S s.heap [] := ⟨hP, hD, va_S.rf⟩
  have hl := lv_entry ([.ref (ly 1)]) (n := 1) (Nat.le_of_ble_eq_true rfl)
  rw [lg_entry_eq]
  generalize (lg_sl ([.ref (ly 1)]) ++ List.replicate (1 - (lg_sl ([.ref (ly 1)])).length) Slot.unset).toArray = ls at hl ⊢
  have hl : lv_has ls 1 [(0, .ref (ly 1))] := hl
  rw [wp_X4_readKind] at hw
  refine lv_aload_n hx hb dX4_readKind_0 rfl (lv_at hl 0 rfl) ?_
  refine va_ldcS hx hb hown (hX.2.2.2 (74, "pane", 0) (List.mem_of_getElem? (i := 0) rfl)) dX4_readKind_1 ?_
  refine k_afti (va_runV (As := [.ref (adK 0)]) (rest := []) ⟨hx, hb, hml, hown, hts⟩ (c_X4_isWord l D kA ly n hn A adK adV 0 S _) (cwV 1 hts gX4_readKind_X4_isWord rfl rfl rfl (by decide +kernel) ⟨(Nat.le_of_ble_eq_true rfl), (Nat.le_of_ble_eq_true rfl)⟩) ⟨k_blindS, (k_recv hK hH (lt_n hn (by decide)) Ec_1 rfl), k_preS hK hN hX hH hw⟩ rfl rfl hl.1 rfl (lv_room (Nat.le_of_ble_eq_true rfl)) dX4_readKind_3 ⟨Nat.le_refl _, Nat.le_refl _⟩) hH (fun r2 S1 H locs hw hH => ?_)
  refine lv_if_eq (tgt := 11) hx hb dX4_readKind_6 (by decide) (fun hc3 => ?_) (fun hc3 => ?_)
  · replace hw := hw.1 hc3
    refine lv_aload_n hx hb dX4_readKind_11 rfl (lv_at hl 0 rfl) ?_
    refine va_ldcS hx hb hown (hX.2.2.2 (76, "thick", 1) (List.mem_of_getElem? (i := 1) rfl)) dX4_readKind_12 ?_
    refine k_afti (va_runV (As := [.ref (adK 1)]) (rest := []) ⟨hx, hb, hml, hown, hts⟩ (c_X4_isWord l D kA ly n hn A adK adV 1 S1 _) (cwV 1 hts gX4_readKind_X4_isWord rfl rfl rfl (by decide +kernel) ⟨(Nat.le_of_ble_eq_true rfl), (Nat.le_of_ble_eq_true rfl)⟩) ⟨k_blindS, (k_recv hK hH (lt_n hn (by decide)) Ec_1 rfl), k_preS hK hN hX hH hw⟩ rfl rfl hl.1 rfl (lv_room (Nat.le_of_ble_eq_true rfl)) dX4_readKind_14 ⟨Nat.le_refl _, Nat.le_refl _⟩) hH (fun r5 S4 H locs hw hH => ?_)
    refine lv_if_eq (tgt := 22) hx hb dX4_readKind_17 (by decide) (fun hc6 => ?_) (fun hc6 => ?_)
    · replace hw := hw.1 hc6
      refine lv_aload_n hx hb dX4_readKind_22 rfl (lv_at hl 0 rfl) ?_
      refine va_ldcS hx hb hown (hX.2.2.2 (78, "double", 2) (List.mem_of_getElem? (i := 2) rfl)) dX4_readKind_23 ?_
      refine k_afti (va_runV (As := [.ref (adK 2)]) (rest := []) ⟨hx, hb, hml, hown, hts⟩ (c_X4_isWord l D kA ly n hn A adK adV 2 S4 _) (cwV 1 hts gX4_readKind_X4_isWord rfl rfl rfl (by decide +kernel) ⟨(Nat.le_of_ble_eq_true rfl), (Nat.le_of_ble_eq_true rfl)⟩) ⟨k_blindS, (k_recv hK hH (lt_n hn (by decide)) Ec_1 rfl), k_preS hK hN hX hH hw⟩ rfl rfl hl.1 rfl (lv_room (Nat.le_of_ble_eq_true rfl)) dX4_readKind_25 ⟨Nat.le_refl _, Nat.le_refl _⟩) hH (fun r8 S7 H locs hw hH => ?_)
      refine lv_if_eq (tgt := 33) hx hb dX4_readKind_28 (by decide) (fun hc9 => ?_) (fun hc9 => ?_)
      · replace hw := hw.1 hc9
        refine lv_aload_n hx hb dX4_readKind_33 rfl (lv_at hl 0 rfl) ?_
        refine va_ldcS hx hb hown (hX.2.2.2 (80, "dark", 3) (List.mem_of_getElem? (i := 3) rfl)) dX4_readKind_34 ?_
        refine k_afti (va_runV (As := [.ref (adK 3)]) (rest := []) ⟨hx, hb, hml, hown, hts⟩ (c_X4_isWord l D kA ly n hn A adK adV 3 S7 _) (cwV 1 hts gX4_readKind_X4_isWord rfl rfl rfl (by decide +kernel) ⟨(Nat.le_of_ble_eq_true rfl), (Nat.le_of_ble_eq_true rfl)⟩) ⟨k_blindS, (k_recv hK hH (lt_n hn (by decide)) Ec_1 rfl), k_preS hK hN hX hH hw⟩ rfl rfl hl.1 rfl (lv_room (Nat.le_of_ble_eq_true rfl)) dX4_readKind_36 ⟨Nat.le_refl _, Nat.le_refl _⟩) hH (fun r11 S10 H locs hw hH => ?_)
        refine lv_if_eq (tgt := 44) hx hb dX4_readKind_39 (by decide) (fun hc12 => ?_) (fun hc12 => ?_)
        · replace hw := hw.1 hc12
          refine lv_aload_n hx hb dX4_readKind_44 rfl (lv_at hl 0 rfl) ?_
          refine va_ldcS hx hb hown (hX.2.2.2 (82, "rippled", 4) (List.mem_of_getElem? (i := 4) rfl)) dX4_readKind_45 ?_
          refine k_afti (va_runV (As := [.ref (adK 4)]) (rest := []) ⟨hx, hb, hml, hown, hts⟩ (c_X4_isWord l D kA ly n hn A adK adV 4 S10 _) (cwV 1 hts gX4_readKind_X4_isWord rfl rfl rfl (by decide +kernel) ⟨(Nat.le_of_ble_eq_true rfl), (Nat.le_of_ble_eq_true rfl)⟩) ⟨k_blindS, (k_recv hK hH (lt_n hn (by decide)) Ec_1 rfl), k_preS hK hN hX hH hw⟩ rfl rfl hl.1 rfl (lv_room (Nat.le_of_ble_eq_true rfl)) dX4_readKind_47 ⟨Nat.le_refl _, Nat.le_refl _⟩) hH (fun r14 S13 H locs hw hH => ?_)
          refine lv_if_eq (tgt := 55) hx hb dX4_readKind_50 (by decide) (fun hc15 => ?_) (fun hc15 => ?_)
          · replace hw := hw.1 hc15
            refine lv_aload_n hx hb dX4_readKind_55 rfl (lv_at hl 0 rfl) ?_
            refine va_ldcS hx hb hown (hX.2.2.2 (84, "mirror", 5) (List.mem_of_getElem? (i := 5) rfl)) dX4_readKind_56 ?_
            refine k_afti (va_runV (As := [.ref (adK 5)]) (rest := []) ⟨hx, hb, hml, hown, hts⟩ (c_X4_isWord l D kA ly n hn A adK adV 5 S13 _) (cwV 1 hts gX4_readKind_X4_isWord rfl rfl rfl (by decide +kernel) ⟨(Nat.le_of_ble_eq_true rfl), (Nat.le_of_ble_eq_true rfl)⟩) ⟨k_blindS, (k_recv hK hH (lt_n hn (by decide)) Ec_1 rfl), k_preS hK hN hX hH hw⟩ rfl rfl hl.1 rfl (lv_room (Nat.le_of_ble_eq_true rfl)) dX4_readKind_58 ⟨Nat.le_refl _, Nat.le_refl _⟩) hH (fun r17 S16 H locs hw hH => ?_)
            refine lv_if_eq (tgt := 68) hx hb dX4_readKind_61 (by decide) (fun hc18 => ?_) (fun hc18 => ?_)
            · replace hw := hw.1 hc18
              refine lv_iconst (v := -1) hx hb dX4_readKind_68 (by decide +kernel) ?_
              exact k_iret hx hb hr hlocks hK hN hH hw dX4_readKind_69
            · replace hw := hw.2 hc18
              refine lv_iconst (v := 5) hx hb dX4_readKind_64 (by decide +kernel) ?_
              refine lv_goto (tgt := 69) hx hb dX4_readKind_65 (by decide) ?_
              exact k_iret hx hb hr hlocks hK hN hH hw dX4_readKind_69
          · replace hw := hw.2 hc15
            refine lv_iconst (v := 4) hx hb dX4_readKind_53 (by decide +kernel) ?_
            exact k_iret hx hb hr hlocks hK hN hH hw dX4_readKind_54
        · replace hw := hw.2 hc12
          refine lv_iconst (v := 3) hx hb dX4_readKind_42 (by decide +kernel) ?_
          exact k_iret hx hb hr hlocks hK hN hH hw dX4_readKind_43
      · replace hw := hw.2 hc9
        refine lv_iconst (v := 2) hx hb dX4_readKind_31 (by decide +kernel) ?_
        exact k_iret hx hb hr hlocks hK hN hH hw dX4_readKind_32
    · replace hw := hw.2 hc6
      refine lv_iconst (v := 1) hx hb dX4_readKind_20 (by decide +kernel) ?_
      exact k_iret hx hb hr hlocks hK hN hH hw dX4_readKind_21
  · replace hw := hw.2 hc3
    refine lv_iconst (v := 0) hx hb dX4_readKind_9 (by decide +kernel) ?_
    exact k_iret hx hb hr hlocks hK hN hH hw dX4_readKind_10
def wp_X4_readPane (a1 : Nat) (a2 : Int32) (S : St) (Q : St → Prop) : Prop := (isW a1 ∧ wp_X10_isFull a1 S (fun r2 S1 => ((r2 = 0 → wp_X4_readNumber (1 : Int32) (16 : Int32) S1 (fun r5 S4 => wp_X10_addPane a1 a2 r5 S4 (fun o7 S6 => isPn o7 ∧ wp_X4_isWord 6 S6 (fun r9 S8 => ((r9 = 0 → Q S8) ∧ (¬ r9 = 0 → wp_X4_readNumber (0 : Int32) (3 : Int32) S8 (fun r12 S11 => (∀ S13 : St, S13 = sI S11 o7 4 r12 → Q S13)))))))) ∧ (¬ r2 = 0 → wp_X4_fail S1 (fun S14 => Q S14)))))
set_option maxHeartbeats 4000000 in
set_option maxRecDepth 100000 in
theorem c_X4_readPane (l : Launch) (D : va_G) (kA : Nat → ClassId) (ly : Nat → Nat) (n : List Nat) (hn : ∀ c, c < 59 → c ∈ n) (A : Nat → Prop) (adK adV : Nat → Nat) (a1 : Nat) (a2 : Int32) : CvS l yX4_readPane wsX4_readPane 5 108 (Gp D (Ec kA ly) ly n A kA) adK adV A [.ref (ly 1), .ref (ly a1), .int a2] (wp_X4_readPane a1 a2) := by
  intro S Q
  refine Met.ofW (cc := cX4_readPane) (maxL := 4) (ret := none) (by decide) rfl ?_
  intro p e s m args below meth c s₁ B hml hv
  obtain ⟨rfl, ⟨⟨hP, hD, hK, hN⟩, hX⟩, hw⟩ := hv
  have hx := B.exec
  have hb := B.bytes
  have hr := B.returns
  have hts := atoms_spec (ws := wsX4_readPane) B.pre
  have hown : s.vm.findClass RX4 = some m.cls := findClass_of_methodNamed B.named
  have hlocks := B.notSynchronized
  have hH : Hp D (Ec kA ly) ly n A s.heap S s.heap [] := ⟨hP, hD, va_S.rf⟩
  have hiX3 : ∀ w ∈ u_ws RX3 TX3 5, w ∈ wsX4_readPane := by decide +kernel
  have lk0 := hts (.fieldLink RX4 95 "SlowPanes$Pane" "place" "I") (by decide +kernel)
  have hl := lv_entry ([.ref (ly 1), .ref (ly a1), .int a2]) (n := 4) (Nat.le_of_ble_eq_true rfl)
  rw [lg_entry_eq]
  generalize (lg_sl ([.ref (ly 1), .ref (ly a1), .int a2]) ++ List.replicate (4 - (lg_sl ([.ref (ly 1), .ref (ly a1), .int a2])).length) Slot.unset).toArray = ls at hl ⊢
  have hl : lv_has ls 4 [(0, .ref (ly 1)), (1, .ref (ly a1)), (2, .int a2)] := hl
  rw [wp_X4_readPane] at hw
  obtain ⟨ha1, hw⟩ := hw
  refine lv_aload_n hx hb dX4_readPane_0 rfl (lv_at hl 1 rfl) ?_
  refine k_afti (va_runV (As := []) (rest := []) ⟨hx, hb, hml, hown, hts⟩ (c_X10_isFull l D kA ly n hn A a1 S _) (cwV 0 hts gX4_readPane_X10_isFull rfl rfl rfl (by decide +kernel) ⟨(Nat.le_of_ble_eq_true rfl), (Nat.le_of_ble_eq_true rfl)⟩) ⟨k_blind, (k_recv hK hH (w_lt0 hn ha1) (Ec_w ha1) rfl), k_pre hK hN hH hw⟩ rfl rfl hl.1 rfl (lv_room (Nat.le_of_ble_eq_true rfl)) dX4_readPane_1 ⟨Nat.le_refl _, Nat.le_refl _⟩) hH (fun r2 S1 H locs hw hH => ?_)
  refine lv_if_eq (tgt := 12) hx hb dX4_readPane_4 (by decide) (fun hc3 => ?_) (fun hc3 => ?_)
  · replace hw := hw.1 hc3
    refine lv_aload_n hx hb dX4_readPane_12 rfl (lv_at hl 1 rfl) ?_
    refine lv_iload_n hx hb dX4_readPane_13 rfl (lv_at hl 2 rfl) ?_
    refine lv_aload_n hx hb dX4_readPane_14 rfl (lv_at hl 0 rfl) ?_
    refine lv_iconst (v := 1) hx hb dX4_readPane_15 (by decide +kernel) ?_
    refine lv_bipush (v := 16) hx hb dX4_readPane_16 (by decide +kernel) ?_
    refine k_afti (va_runV (As := [.int (1 : Int32), .int (16 : Int32)]) (rest := [.int a2, .ref (ly a1)]) ⟨hx, hb, hml, hown, hts⟩ (c_X4_readNumber l D kA ly n hn A (1 : Int32) (16 : Int32) S1 _) (cwV 2 hts gX4_readPane_X4_readNumber rfl rfl rfl (by decide +kernel) ⟨(Nat.le_of_ble_eq_true rfl), (Nat.le_of_ble_eq_true rfl)⟩) ⟨k_blind, (k_recv hK hH (lt_n hn (by decide)) Ec_1 rfl), k_pre hK hN hH hw⟩ rfl rfl hl.1 rfl (lv_room (Nat.le_of_ble_eq_true rfl)) dX4_readPane_18 ⟨Nat.le_refl _, Nat.le_refl _⟩) hH (fun r5 S4 H locs hw hH => ?_)
    refine k_aftr (va_runV (As := [.int a2, .int r5]) (rest := []) ⟨hx, hb, hml, hown, hts⟩ (c_X10_addPane l D kA ly n hn A a1 a2 r5 S4 _) (cwV 2 hts gX4_readPane_X10_addPane rfl rfl rfl (by decide +kernel) ⟨(Nat.le_of_ble_eq_true rfl), (Nat.le_of_ble_eq_true rfl)⟩) ⟨k_blind, (k_recv hK hH (w_lt0 hn ha1) (Ec_w ha1) rfl), k_pre hK hN hH hw⟩ rfl rfl hl.1 rfl (lv_room (Nat.le_of_ble_eq_true rfl)) dX4_readPane_21 ⟨Nat.le_refl _, Nat.le_refl _⟩) hH (fun o7 S6 H locs hw hH => ?_)
    obtain ⟨ho7, hw⟩ := hw
    refine lv_astore_n (lv' := [(3, .ref (ly o7)), (0, .ref (ly 1)), (1, .ref (ly a1)), (2, .int a2)]) hx hb dX4_readPane_24 rfl hl (by decide) rfl (fun ls hl => ?_)
    refine lv_aload_n hx hb dX4_readPane_25 rfl (lv_at hl 1 rfl) ?_
    refine va_ldcS hx hb hown (hX.2.2.2 (94, "at", 6) (List.mem_of_getElem? (i := 6) rfl)) dX4_readPane_26 ?_
    refine k_afti (va_runV (As := [.ref (adK 6)]) (rest := []) ⟨hx, hb, hml, hown, hts⟩ (c_X4_isWord l D kA ly n hn A adK adV 6 S6 _) (cwV 1 hts gX4_readPane_X4_isWord rfl rfl rfl (by decide +kernel) ⟨(Nat.le_of_ble_eq_true rfl), (Nat.le_of_ble_eq_true rfl)⟩) ⟨k_blindS, (k_recv hK hH (lt_n hn (by decide)) Ec_1 rfl), k_preS hK hN hX hH hw⟩ rfl rfl hl.1 rfl (lv_room (Nat.le_of_ble_eq_true rfl)) dX4_readPane_28 ⟨Nat.le_refl _, Nat.le_refl _⟩) hH (fun r9 S8 H locs hw hH => ?_)
    refine lv_if_eq (tgt := 44) hx hb dX4_readPane_31 (by decide) (fun hc10 => ?_) (fun hc10 => ?_)
    · replace hw := hw.1 hc10
      exact k_vret hx hb hr hlocks hK hN hH hw dX4_readPane_44
    · replace hw := hw.2 hc10
      refine lv_aload_n hx hb dX4_readPane_34 rfl (lv_at hl 0 rfl) ?_
      refine lv_aload_n hx hb dX4_readPane_35 rfl (lv_at hl 1 rfl) ?_
      refine lv_iconst (v := 0) hx hb dX4_readPane_36 (by decide +kernel) ?_
      refine lv_iconst (v := 3) hx hb dX4_readPane_37 (by decide +kernel) ?_
      refine k_afti (va_runV (As := [.int (0 : Int32), .int (3 : Int32)]) (rest := [.ref (ly o7)]) ⟨hx, hb, hml, hown, hts⟩ (c_X4_readNumber l D kA ly n hn A (0 : Int32) (3 : Int32) S8 _) (cwV 2 hts gX4_readPane_X4_readNumber rfl rfl rfl (by decide +kernel) ⟨(Nat.le_of_ble_eq_true rfl), (Nat.le_of_ble_eq_true rfl)⟩) ⟨k_blind, (k_recv hK hH (lt_n hn (by decide)) Ec_1 rfl), k_pre hK hN hH hw⟩ rfl rfl hl.1 rfl (lv_room (Nat.le_of_ble_eq_true rfl)) dX4_readPane_38 ⟨Nat.le_refl _, Nat.le_refl _⟩) hH (fun r12 S11 H locs hw hH => ?_)
      refine pf_pn_4 hx hb hts hiX3 hown hK hn hH ho7 lk0 dX4_readPane_41 (fun S13 H locs eS13 hH => ?_)
      replace hw := hw S13 eS13
      exact k_vret hx hb hr hlocks hK hN hH hw dX4_readPane_44
  · replace hw := hw.2 hc3
    refine lv_aload_n hx hb dX4_readPane_7 rfl (lv_at hl 0 rfl) ?_
    refine k_aftv (va_runV (As := []) (rest := []) ⟨hx, hb, hml, hown, hts⟩ (c_X4_fail l D kA ly n hn A S1 _) (cwV 0 hts gX4_readPane_X4_fail rfl rfl rfl (by decide +kernel) ⟨(Nat.le_of_ble_eq_true rfl), (Nat.le_of_ble_eq_true rfl)⟩) ⟨k_blind, (k_recv hK hH (lt_n hn (by decide)) Ec_1 rfl), k_pre hK hN hH hw⟩ rfl rfl hl.1 rfl (lv_room (Nat.le_of_ble_eq_true rfl)) dX4_readPane_8 ⟨Nat.le_refl _, Nat.le_refl _⟩) hH (fun S14 H locs hw hH => ?_)
    exact k_vret hx hb hr hlocks hK hN hH hw dX4_readPane_11
def wp_X4_needWord (a1 : Nat) (S : St) (Q : St → Prop) : Prop := (a1 < 11 ∧ wp_X4_isWord a1 S (fun r2 S1 => ((r2 = 0 → wp_X4_fail S1 (fun S4 => Q S4)) ∧ (¬ r2 = 0 → Q S1))))
set_option maxHeartbeats 4000000 in
set_option maxRecDepth 100000 in
theorem c_X4_needWord (l : Launch) (D : va_G) (kA : Nat → ClassId) (ly : Nat → Nat) (n : List Nat) (hn : ∀ c, c < 59 → c ∈ n) (A : Nat → Prop) (adK adV : Nat → Nat) (a1 : Nat) : CvS l yX4_needWord wsX4_needWord 5 108 (Gp D (Ec kA ly) ly n A kA) adK adV A [.ref (ly 1), .ref (adK a1)] (wp_X4_needWord a1) := by
  intro S Q
  refine Met.ofW (cc := cX4_needWord) (maxL := 2) (ret := none) (by decide) rfl ?_
  intro p e s m args below meth c s₁ B hml hv
  obtain ⟨rfl, ⟨⟨hP, hD, hK, hN⟩, hX⟩, hw⟩ := hv
  have hx := B.exec
  have hb := B.bytes
  have hr := B.returns
  have hts := atoms_spec (ws := wsX4_needWord) B.pre
  have hown : s.vm.findClass RX4 = some m.cls := findClass_of_methodNamed B.named
  have hlocks := B.notSynchronized
  have hH : Hp D (Ec kA ly) ly n A s.heap S s.heap [] := ⟨hP, hD, va_S.rf⟩
  have hl := lv_entry ([.ref (ly 1), .ref (adK a1)]) (n := 2) (Nat.le_of_ble_eq_true rfl)
  rw [lg_entry_eq]
  generalize (lg_sl ([.ref (ly 1), .ref (adK a1)]) ++ List.replicate (2 - (lg_sl ([.ref (ly 1), .ref (adK a1)])).length) Slot.unset).toArray = ls at hl ⊢
  have hl : lv_has ls 2 [(0, .ref (ly 1)), (1, .ref (adK a1))] := hl
  rw [wp_X4_needWord] at hw
  obtain ⟨ha1, hw⟩ := hw
  refine lv_aload_n hx hb dX4_needWord_0 rfl (lv_at hl 0 rfl) ?_
  refine lv_aload_n hx hb dX4_needWord_1 rfl (lv_at hl 1 rfl) ?_
  refine k_afti (va_runV (As := [.ref (adK a1)]) (rest := []) ⟨hx, hb, hml, hown, hts⟩ (c_X4_isWord l D kA ly n hn A adK adV a1 S _) (cwV 1 hts gX4_needWord_X4_isWord rfl rfl rfl (by decide +kernel) ⟨(Nat.le_of_ble_eq_true rfl), (Nat.le_of_ble_eq_true rfl)⟩) ⟨k_blindS, (k_recv hK hH (lt_n hn (by decide)) Ec_1 rfl), k_preS hK hN hX hH hw⟩ rfl rfl hl.1 rfl (lv_room (Nat.le_of_ble_eq_true rfl)) dX4_needWord_2 ⟨Nat.le_refl _, Nat.le_refl _⟩) hH (fun r2 S1 H locs hw hH => ?_)
  refine lv_if_ne (tgt := 12) hx hb dX4_needWord_5 (by decide) (fun hc3 => ?_) (fun hc3 => ?_)
  · replace hw := hw.2 hc3
    exact k_vret hx hb hr hlocks hK hN hH hw dX4_needWord_12
  · replace hw := hw.1 hc3
    refine lv_aload_n hx hb dX4_needWord_8 rfl (lv_at hl 0 rfl) ?_
    refine k_aftv (va_runV (As := []) (rest := []) ⟨hx, hb, hml, hown, hts⟩ (c_X4_fail l D kA ly n hn A S1 _) (cwV 0 hts gX4_needWord_X4_fail rfl rfl rfl (by decide +kernel) ⟨(Nat.le_of_ble_eq_true rfl), (Nat.le_of_ble_eq_true rfl)⟩) ⟨k_blind, (k_recv hK hH (lt_n hn (by decide)) Ec_1 rfl), k_pre hK hN hH hw⟩ rfl rfl hl.1 rfl (lv_room (Nat.le_of_ble_eq_true rfl)) dX4_needWord_9 ⟨Nat.le_refl _, Nat.le_refl _⟩) hH (fun S4 H locs hw hH => ?_)
    exact k_vret hx hb hr hlocks hK hN hH hw dX4_needWord_12
def wl_X4_readView_30 (a1 : Nat) (r2 : Int32) (K_30 : Int32 → Int32 → St → Prop) : Nat → Int32 → Int32 → St → Prop
  | 0, _, _, _ => False
  | fu_30 + 1, v3_30, v4_30, S_30 => ((v4_30 = 0 → K_30 v3_30 v4_30 S_30) ∧ (¬ v4_30 = 0 → (((50 : Int32) ≤ v3_30 → K_30 v3_30 v4_30 S_30) ∧ (¬ (50 : Int32) ≤ v3_30 → wp_X11_viewSlot r2 v3_30 S_30 (fun r10 S9 => wp_X4_readNumber (0 : Int32) (99 : Int32) S9 (fun r12 S11 => (vp_in r10 200 ∧ ∀ S14 : St, S14 = sA S11 (a1 + 1) r10.toNatClampNeg r12 → wp_X4_isSign (44 : Int32) S14 (fun r16 S15 => (∀ t17 : Int32, t17 = v3_30 + 1 → wl_X4_readView_30 a1 r2 K_30 fu_30 t17 r16 S15)))))))))
def wp_X4_readView (a1 : Nat) (S : St) (Q : St → Prop) : Prop := (isW a1 ∧ wp_X4_readNumber (0 : Int32) (3 : Int32) S (fun r2 S1 => wp_X4_needWord 7 S1 (fun S3 => wp_X4_readNumber (0 : Int32) (49 : Int32) S3 (fun r5 S4 => wp_X4_needSign (58 : Int32) S4 (fun S6 => (∃ m_30 : Nat, wl_X4_readView_30 a1 r2 (fun e3_18 e4_19 S20 => ((e4_19 = 0 → Q S20) ∧ (¬ e4_19 = 0 → wp_X4_look S20 (fun S22 => wp_X4_fail S22 (fun S23 => Q S23))))) m_30 r5 (1 : Int32) S6))))))
set_option maxHeartbeats 4000000 in
set_option maxRecDepth 100000 in
theorem c_X4_readView (l : Launch) (D : va_G) (kA : Nat → ClassId) (ly : Nat → Nat) (n : List Nat) (hn : ∀ c, c < 59 → c ∈ n) (A : Nat → Prop) (adK adV : Nat → Nat) (a1 : Nat) : CvS l yX4_readView wsX4_readView 6 129 (Gp D (Ec kA ly) ly n A kA) adK adV A [.ref (ly 1), .ref (ly a1)] (wp_X4_readView a1) := by
  intro S Q
  refine Met.ofW (cc := cX4_readView) (maxL := 5) (ret := none) (by decide) rfl ?_
  intro p e s m args below meth c s₁ B hml hv
  obtain ⟨rfl, ⟨⟨hP, hD, hK, hN⟩, hX⟩, hw⟩ := hv
  have hx := B.exec
  have hb := B.bytes
  have hr := B.returns
  have hts := atoms_spec (ws := wsX4_readView) B.pre
  have hown : s.vm.findClass RX4 = some m.cls := findClass_of_methodNamed B.named
  have hlocks := B.notSynchronized
  have hH : Hp D (Ec kA ly) ly n A s.heap S s.heap [] := ⟨hP, hD, va_S.rf⟩
  have hiX10 : ∀ w ∈ u_ws RX10 TX10 6, w ∈ wsX4_readView := by decide +kernel
  have lk0 := hts (.fieldLink RX4 106 "SlowPanes$World" "views" "[I") (by decide +kernel)
  have lk1 := hts (.initialized RX11) (by decide +kernel)
  have lk2 := hts (.static yX11_viewSlot) (by decide +kernel)
  have hl := lv_entry ([.ref (ly 1), .ref (ly a1)]) (n := 5) (Nat.le_of_ble_eq_true rfl)
  rw [lg_entry_eq]
  generalize (lg_sl ([.ref (ly 1), .ref (ly a1)]) ++ List.replicate (5 - (lg_sl ([.ref (ly 1), .ref (ly a1)])).length) Slot.unset).toArray = ls at hl ⊢
  have hl : lv_has ls 5 [(0, .ref (ly 1)), (1, .ref (ly a1))] := hl
  rw [wp_X4_readView] at hw
  obtain ⟨ha1, hw⟩ := hw
  refine lv_aload_n hx hb dX4_readView_0 rfl (lv_at hl 0 rfl) ?_
  refine lv_iconst (v := 0) hx hb dX4_readView_1 (by decide +kernel) ?_
  refine lv_iconst (v := 3) hx hb dX4_readView_2 (by decide +kernel) ?_
  refine k_afti (va_runV (As := [.int (0 : Int32), .int (3 : Int32)]) (rest := []) ⟨hx, hb, hml, hown, hts⟩ (c_X4_readNumber l D kA ly n hn A (0 : Int32) (3 : Int32) S _) (cwV 2 hts gX4_readView_X4_readNumber rfl rfl rfl (by decide +kernel) ⟨(Nat.le_of_ble_eq_true rfl), (Nat.le_of_ble_eq_true rfl)⟩) ⟨k_blind, (k_recv hK hH (lt_n hn (by decide)) Ec_1 rfl), k_pre hK hN hH hw⟩ rfl rfl hl.1 rfl (lv_room (Nat.le_of_ble_eq_true rfl)) dX4_readView_3 ⟨Nat.le_refl _, Nat.le_refl _⟩) hH (fun r2 S1 H locs hw hH => ?_)
  refine lv_istore_n (lv' := [(2, .int r2), (0, .ref (ly 1)), (1, .ref (ly a1))]) hx hb dX4_readView_6 rfl hl (by decide) rfl (fun ls hl => ?_)
  refine lv_aload_n hx hb dX4_readView_7 rfl (lv_at hl 1 rfl) ?_
  refine va_ldcS hx hb hown (hX.2.2.2 (100, "from", 7) (List.mem_of_getElem? (i := 7) rfl)) dX4_readView_8 ?_
  refine k_aftv (va_runV (As := [.ref (adK 7)]) (rest := []) ⟨hx, hb, hml, hown, hts⟩ (c_X4_needWord l D kA ly n hn A adK adV 7 S1 _) (cwV 1 hts gX4_readView_X4_needWord rfl rfl rfl (by decide +kernel) ⟨(Nat.le_of_ble_eq_true rfl), (Nat.le_of_ble_eq_true rfl)⟩) ⟨k_blindS, (k_recv hK hH (lt_n hn (by decide)) Ec_1 rfl), k_preS hK hN hX hH hw⟩ rfl rfl hl.1 rfl (lv_room (Nat.le_of_ble_eq_true rfl)) dX4_readView_10 ⟨Nat.le_refl _, Nat.le_refl _⟩) hH (fun S3 H locs hw hH => ?_)
  refine lv_aload_n hx hb dX4_readView_13 rfl (lv_at hl 1 rfl) ?_
  refine lv_iconst (v := 0) hx hb dX4_readView_14 (by decide +kernel) ?_
  refine lv_bipush (v := 49) hx hb dX4_readView_15 (by decide +kernel) ?_
  refine k_afti (va_runV (As := [.int (0 : Int32), .int (49 : Int32)]) (rest := []) ⟨hx, hb, hml, hown, hts⟩ (c_X4_readNumber l D kA ly n hn A (0 : Int32) (49 : Int32) S3 _) (cwV 2 hts gX4_readView_X4_readNumber rfl rfl rfl (by decide +kernel) ⟨(Nat.le_of_ble_eq_true rfl), (Nat.le_of_ble_eq_true rfl)⟩) ⟨k_blind, (k_recv hK hH (lt_n hn (by decide)) Ec_1 rfl), k_pre hK hN hH hw⟩ rfl rfl hl.1 rfl (lv_room (Nat.le_of_ble_eq_true rfl)) dX4_readView_17 ⟨Nat.le_refl _, Nat.le_refl _⟩) hH (fun r5 S4 H locs hw hH => ?_)
  refine lv_istore_n (lv' := [(3, .int r5), (2, .int r2), (0, .ref (ly 1)), (1, .ref (ly a1))]) hx hb dX4_readView_20 rfl hl (by decide) rfl (fun ls hl => ?_)
  refine lv_aload_n hx hb dX4_readView_21 rfl (lv_at hl 2 rfl) ?_
  refine lv_bipush (v := 58) hx hb dX4_readView_22 (by decide +kernel) ?_
  refine k_aftv (va_runV (As := [.int (58 : Int32)]) (rest := []) ⟨hx, hb, hml, hown, hts⟩ (c_X4_needSign l D kA ly n hn A (58 : Int32) S4 _) (cwV 1 hts gX4_readView_X4_needSign rfl rfl rfl (by decide +kernel) ⟨(Nat.le_of_ble_eq_true rfl), (Nat.le_of_ble_eq_true rfl)⟩) ⟨k_blind, (k_recv hK hH (lt_n hn (by decide)) Ec_1 rfl), k_pre hK hN hH hw⟩ rfl rfl hl.1 rfl (lv_room (Nat.le_of_ble_eq_true rfl)) dX4_readView_24 ⟨Nat.le_refl _, Nat.le_refl _⟩) hH (fun S6 H locs hw hH => ?_)
  refine lv_iconst (v := 1) hx hb dX4_readView_27 (by decide +kernel) ?_
  refine lv_istore (lv' := [(4, .int (1 : Int32)), (3, .int r5), (2, .int r2), (0, .ref (ly 1)), (1, .ref (ly a1))]) hx hb dX4_readView_28 hl (by decide) rfl (fun ls hl => ?_)
  have L_30 : ∀ (K_30 : Int32 → Int32 → St → Prop) (hk_30 : ∀ (v3_30 : Int32) (v4_30 : Int32) (S_30 : St) (H : Heap) (locs : List Loc) (ls : Array Slot), K_30 v3_30 v4_30 S_30 → Hp D (Ec kA ly) ly n A s.heap S_30 H locs → lv_has ls 5 [(0, .ref (ly 1)), (1, .ref (ly a1)), (2, .int r2), (3, .int v3_30), (4, .int v4_30)] → W p l e (headSpec wsX4_readView { frames := 6, cells := 0, slots := 0, locals := 129 }).room s m [.ref (ly 1), .ref (ly a1)].toArray below meth c H locs 0 0 (MQ below (va_Qv Q (Gp D (Ec kA ly) ly n A kA) A) [.ref (ly 1), .ref (ly a1)].toArray s 0 0 A) (F0 m 72 ls [])) (fu_30 : Nat) (v3_30 : Int32) (v4_30 : Int32) (S_30 : St) (H : Heap) (locs : List Loc) (ls : Array Slot), wl_X4_readView_30 a1 r2 K_30 fu_30 v3_30 v4_30 S_30 → Hp D (Ec kA ly) ly n A s.heap S_30 H locs → lv_has ls 5 [(0, .ref (ly 1)), (1, .ref (ly a1)), (2, .int r2), (3, .int v3_30), (4, .int v4_30)] → W p l e (headSpec wsX4_readView { frames := 6, cells := 0, slots := 0, locals := 129 }).room s m [.ref (ly 1), .ref (ly a1)].toArray below meth c H locs 0 0 (MQ below (va_Qv Q (Gp D (Ec kA ly) ly n A kA) A) [.ref (ly 1), .ref (ly a1)].toArray s 0 0 A) (F0 m 30 ls []) := by
    intro K_30 hk_30 fu_30
    induction fu_30 with
    | zero => intro v3_30 v4_30 S_30 H locs ls hw hH hl; rw [wl_X4_readView_30] at hw; exact hw.elim
    | succ fu_30 ih_30 =>
      intro v3_30 v4_30 S_30 H locs ls hw hH hl
      rw [wl_X4_readView_30] at hw
      refine lv_iload hx hb dX4_readView_30 (lv_at hl 4 rfl) ?_
      refine lv_if_eq (tgt := 72) hx hb dX4_readView_32 (by decide) (fun hc7 => ?_) (fun hc7 => ?_)
      · replace hw := hw.1 hc7
        exact hk_30 v3_30 v4_30 S_30 _ _ ls hw hH (lv_sub hl [0, 1, 2, 3, 4] rfl)
      · replace hw := hw.2 hc7
        refine lv_iload_n hx hb dX4_readView_35 rfl (lv_at hl 3 rfl) ?_
        refine lv_bipush (v := 50) hx hb dX4_readView_36 (by decide +kernel) ?_
        refine lv_icmp_ge (tgt := 72) hx hb dX4_readView_38 (by decide) (fun hc8 => ?_) (fun hc8 => ?_)
        · replace hw := hw.1 hc8
          exact hk_30 v3_30 v4_30 S_30 _ _ ls hw hH (lv_sub hl [0, 1, 2, 3, 4] rfl)
        · replace hw := hw.2 hc8
          refine lv_aload_n hx hb dX4_readView_41 rfl (lv_at hl 1 rfl) ?_
          refine gf_w_0 hx hb hts hiX10 hown hK hn hH ha1 lk0 dX4_readView_42 ?_
          refine lv_iload_n hx hb dX4_readView_45 rfl (lv_at hl 2 rfl) ?_
          refine lv_iload_n hx hb dX4_readView_46 rfl (lv_at hl 3 rfl) ?_
          refine k_afti (va_runSN (As := [.int r2, .int v3_30]) (rest := [.ref (ly (a1 + 1))]) ⟨hx, hb, hml, hown, hts⟩ (c_X11_viewSlot l D kA ly n hn A r2 v3_30 S_30 _) ⟨va_cnB 2 hts gX4_readView_X11_viewSlot_n109 rfl rfl rfl (hN _ (List.mem_of_getElem? (i := 4) rfl)) lk1 (by decide +kernel) ⟨(Nat.le_of_ble_eq_true rfl), (Nat.le_of_ble_eq_true rfl)⟩, lk2, trivial⟩ ⟨k_blind, k_pre hK hN hH hw⟩ rfl rfl hl.1 rfl (lv_room (Nat.le_of_ble_eq_true rfl)) dX4_readView_47 ⟨Nat.le_refl _, Nat.le_refl _⟩) hH (fun r10 S9 H locs hw hH => ?_)
          refine lv_aload_n hx hb dX4_readView_50 rfl (lv_at hl 0 rfl) ?_
          refine lv_iconst (v := 0) hx hb dX4_readView_51 (by decide +kernel) ?_
          refine lv_bipush (v := 99) hx hb dX4_readView_52 (by decide +kernel) ?_
          refine k_afti (va_runV (As := [.int (0 : Int32), .int (99 : Int32)]) (rest := [.int r10, .ref (ly (a1 + 1))]) ⟨hx, hb, hml, hown, hts⟩ (c_X4_readNumber l D kA ly n hn A (0 : Int32) (99 : Int32) S9 _) (cwV 2 hts gX4_readView_X4_readNumber rfl rfl rfl (by decide +kernel) ⟨(Nat.le_of_ble_eq_true rfl), (Nat.le_of_ble_eq_true rfl)⟩) ⟨k_blind, (k_recv hK hH (lt_n hn (by decide)) Ec_1 rfl), k_pre hK hN hH hw⟩ rfl rfl hl.1 rfl (lv_room (Nat.le_of_ble_eq_true rfl)) dX4_readView_54 ⟨Nat.le_refl _, Nat.le_refl _⟩) hH (fun r12 S11 H locs hw hH => ?_)
          obtain ⟨hi_13, hw⟩ := hw
          refine k_ist hx hb hK hH (w_lt hn ha1 1 (by decide)) (fun _ => (Ec_wv ha1)) hi_13 dX4_readView_57 (fun S14 H locs eS14 hH => ?_)
          replace hw := hw S14 eS14
          refine lv_aload_n hx hb dX4_readView_58 rfl (lv_at hl 0 rfl) ?_
          refine lv_bipush (v := 44) hx hb dX4_readView_59 (by decide +kernel) ?_
          refine k_afti (va_runV (As := [.int (44 : Int32)]) (rest := []) ⟨hx, hb, hml, hown, hts⟩ (c_X4_isSign l D kA ly n hn A (44 : Int32) S14 _) (cwV 1 hts gX4_readView_X4_isSign rfl rfl rfl (by decide +kernel) ⟨(Nat.le_of_ble_eq_true rfl), (Nat.le_of_ble_eq_true rfl)⟩) ⟨k_blind, (k_recv hK hH (lt_n hn (by decide)) Ec_1 rfl), k_pre hK hN hH hw⟩ rfl rfl hl.1 rfl (lv_room (Nat.le_of_ble_eq_true rfl)) dX4_readView_61 ⟨Nat.le_refl _, Nat.le_refl _⟩) hH (fun r16 S15 H locs hw hH => ?_)
          refine lv_istore (lv' := [(4, .int r16), (0, .ref (ly 1)), (1, .ref (ly a1)), (2, .int r2), (3, .int v3_30)]) hx hb dX4_readView_64 hl (by decide) rfl (fun ls hl => ?_)
          obtain ⟨t17, et17⟩ : ∃ y : Int32, y = v3_30 + 1 := ⟨_, rfl⟩
          replace hw := hw t17 et17
          refine lv_iinc (v := t17) (lv' := [(3, .int t17), (4, .int r16), (0, .ref (ly 1)), (1, .ref (ly a1)), (2, .int r2)]) hx hb dX4_readView_66 hl (k := 4) rfl (by rw [et17]; rfl) (by decide) rfl (fun ls hl => ?_)
          refine lv_goto (tgt := 30) hx hb dX4_readView_69 (by decide) ?_
          exact ih_30 t17 r16 S15 _ _ ls hw hH (lv_sub hl [2, 3, 4, 0, 1] rfl)
  obtain ⟨m_30, hw⟩ := hw
  refine L_30 _ (fun e3_18 e4_19 S20 H locs ls hw hH hl => ?_) m_30 r5 (1 : Int32) S6 _ _ ls hw hH (lv_sub hl [3, 4, 2, 1, 0] rfl)
  refine lv_iload hx hb dX4_readView_72 (lv_at hl 4 rfl) ?_
  refine lv_if_eq (tgt := 85) hx hb dX4_readView_74 (by decide) (fun hc21 => ?_) (fun hc21 => ?_)
  · replace hw := hw.1 hc21
    exact k_vret hx hb hr hlocks hK hN hH hw dX4_readView_85
  · replace hw := hw.2 hc21
    refine lv_aload_n hx hb dX4_readView_77 rfl (lv_at hl 0 rfl) ?_
    refine k_aftv (va_runV (As := []) (rest := []) ⟨hx, hb, hml, hown, hts⟩ (c_X4_look l D kA ly n hn A S20 _) (cwV 0 hts gX4_readView_X4_look rfl rfl rfl (by decide +kernel) ⟨(Nat.le_of_ble_eq_true rfl), (Nat.le_of_ble_eq_true rfl)⟩) ⟨k_blind, (k_recv hK hH (lt_n hn (by decide)) Ec_1 rfl), k_pre hK hN hH hw⟩ rfl rfl hl.1 rfl (lv_room (Nat.le_of_ble_eq_true rfl)) dX4_readView_78 ⟨Nat.le_refl _, Nat.le_refl _⟩) hH (fun S22 H locs hw hH => ?_)
    refine lv_aload_n hx hb dX4_readView_81 rfl (lv_at hl 0 rfl) ?_
    refine k_aftv (va_runV (As := []) (rest := []) ⟨hx, hb, hml, hown, hts⟩ (c_X4_fail l D kA ly n hn A S22 _) (cwV 0 hts gX4_readView_X4_fail rfl rfl rfl (by decide +kernel) ⟨(Nat.le_of_ble_eq_true rfl), (Nat.le_of_ble_eq_true rfl)⟩) ⟨k_blind, (k_recv hK hH (lt_n hn (by decide)) Ec_1 rfl), k_pre hK hN hH hw⟩ rfl rfl hl.1 rfl (lv_room (Nat.le_of_ble_eq_true rfl)) dX4_readView_82 ⟨Nat.le_refl _, Nat.le_refl _⟩) hH (fun S23 H locs hw hH => ?_)
    exact k_vret hx hb hr hlocks hK hN hH hw dX4_readView_85
def wp_X4_readOne (a1 : Nat) (S : St) (Q : St → Prop) : Prop := (isW a1 ∧ wp_X4_readKind S (fun r2 S1 => ((r2 < 0 → wp_X4_isWord 8 S1 (fun r5 S4 => ((r5 = 0 → wp_X4_isWord 9 S4 (fun r8 S7 => ((r8 = 0 → wp_X4_isWord 10 S7 (fun r11 S10 => ((r11 = 0 → wp_X4_fail S10 (fun S13 => wp_X4_needSign (59 : Int32) S13 (fun S14 => Q S14))) ∧ (¬ r11 = 0 → wp_X4_readNumber (0 : Int32) (50 : Int32) S10 (fun r16 S15 => (∀ S17 : St, S17 = sI S15 a1 4 r16 → wp_X4_needSign (59 : Int32) S17 (fun S18 => Q S18))))))) ∧ (¬ r8 = 0 → wp_X4_readLove a1 S7 (fun S19 => wp_X4_needSign (59 : Int32) S19 (fun S20 => Q S20)))))) ∧ (¬ r5 = 0 → wp_X4_readView a1 S4 (fun S21 => wp_X4_needSign (59 : Int32) S21 (fun S22 => Q S22)))))) ∧ (¬ r2 < 0 → wp_X4_readPane a1 r2 S1 (fun S23 => wp_X4_needSign (59 : Int32) S23 (fun S24 => Q S24))))))
set_option maxHeartbeats 4000000 in
set_option maxRecDepth 100000 in
theorem c_X4_readOne (l : Launch) (D : va_G) (kA : Nat → ClassId) (ly : Nat → Nat) (n : List Nat) (hn : ∀ c, c < 59 → c ∈ n) (A : Nat → Prop) (adK adV : Nat → Nat) (a1 : Nat) : CvS l yX4_readOne wsX4_readOne 7 153 (Gp D (Ec kA ly) ly n A kA) adK adV A [.ref (ly 1), .ref (ly a1)] (wp_X4_readOne a1) := by
  intro S Q
  refine Met.ofW (cc := cX4_readOne) (maxL := 3) (ret := none) (by decide) rfl ?_
  intro p e s m args below meth c s₁ B hml hv
  obtain ⟨rfl, ⟨⟨hP, hD, hK, hN⟩, hX⟩, hw⟩ := hv
  have hx := B.exec
  have hb := B.bytes
  have hr := B.returns
  have hts := atoms_spec (ws := wsX4_readOne) B.pre
  have hown : s.vm.findClass RX4 = some m.cls := findClass_of_methodNamed B.named
  have hlocks := B.notSynchronized
  have hH : Hp D (Ec kA ly) ly n A s.heap S s.heap [] := ⟨hP, hD, va_S.rf⟩
  have hiX10 : ∀ w ∈ u_ws RX10 TX10 6, w ∈ wsX4_readOne := by decide +kernel
  have lk0 := hts (.fieldLink RX4 63 "SlowPanes$World" "today" "I") (by decide +kernel)
  have hl := lv_entry ([.ref (ly 1), .ref (ly a1)]) (n := 3) (Nat.le_of_ble_eq_true rfl)
  rw [lg_entry_eq]
  generalize (lg_sl ([.ref (ly 1), .ref (ly a1)]) ++ List.replicate (3 - (lg_sl ([.ref (ly 1), .ref (ly a1)])).length) Slot.unset).toArray = ls at hl ⊢
  have hl : lv_has ls 3 [(0, .ref (ly 1)), (1, .ref (ly a1))] := hl
  rw [wp_X4_readOne] at hw
  obtain ⟨ha1, hw⟩ := hw
  refine lv_aload_n hx hb dX4_readOne_0 rfl (lv_at hl 0 rfl) ?_
  refine k_afti (va_runV (As := []) (rest := []) ⟨hx, hb, hml, hown, hts⟩ (c_X4_readKind l D kA ly n hn A adK adV S _) (cwV 0 hts gX4_readOne_X4_readKind rfl rfl rfl (by decide +kernel) ⟨(Nat.le_of_ble_eq_true rfl), (Nat.le_of_ble_eq_true rfl)⟩) ⟨k_blindS, (k_recv hK hH (lt_n hn (by decide)) Ec_1 rfl), k_preS hK hN hX hH hw⟩ rfl rfl hl.1 rfl (lv_room (Nat.le_of_ble_eq_true rfl)) dX4_readOne_1 ⟨Nat.le_refl _, Nat.le_refl _⟩) hH (fun r2 S1 H locs hw hH => ?_)
  refine lv_istore_n (lv' := [(2, .int r2), (0, .ref (ly 1)), (1, .ref (ly a1))]) hx hb dX4_readOne_4 rfl hl (by decide) rfl (fun ls hl => ?_)
  refine lv_iload_n hx hb dX4_readOne_5 rfl (lv_at hl 0 rfl) ?_
  refine lv_if_lt (tgt := 18) hx hb dX4_readOne_6 (by decide) (fun hc3 => ?_) (fun hc3 => ?_)
  · replace hw := hw.1 hc3
    refine lv_aload_n hx hb dX4_readOne_18 rfl (lv_at hl 1 rfl) ?_
    refine va_ldcS hx hb hown (hX.2.2.2 (43, "view", 8) (List.mem_of_getElem? (i := 8) rfl)) dX4_readOne_19 ?_
    refine k_afti (va_runV (As := [.ref (adK 8)]) (rest := []) ⟨hx, hb, hml, hown, hts⟩ (c_X4_isWord l D kA ly n hn A adK adV 8 S1 _) (cwV 1 hts gX4_readOne_X4_isWord rfl rfl rfl (by decide +kernel) ⟨(Nat.le_of_ble_eq_true rfl), (Nat.le_of_ble_eq_true rfl)⟩) ⟨k_blindS, (k_recv hK hH (lt_n hn (by decide)) Ec_1 rfl), k_preS hK hN hX hH hw⟩ rfl rfl hl.1 rfl (lv_room (Nat.le_of_ble_eq_true rfl)) dX4_readOne_21 ⟨Nat.le_refl _, Nat.le_refl _⟩) hH (fun r5 S4 H locs hw hH => ?_)
    refine lv_if_eq (tgt := 35) hx hb dX4_readOne_24 (by decide) (fun hc6 => ?_) (fun hc6 => ?_)
    · replace hw := hw.1 hc6
      refine lv_aload_n hx hb dX4_readOne_35 rfl (lv_at hl 1 rfl) ?_
      refine va_ldcS hx hb hown (hX.2.2.2 (52, "love", 9) (List.mem_of_getElem? (i := 9) rfl)) dX4_readOne_36 ?_
      refine k_afti (va_runV (As := [.ref (adK 9)]) (rest := []) ⟨hx, hb, hml, hown, hts⟩ (c_X4_isWord l D kA ly n hn A adK adV 9 S4 _) (cwV 1 hts gX4_readOne_X4_isWord rfl rfl rfl (by decide +kernel) ⟨(Nat.le_of_ble_eq_true rfl), (Nat.le_of_ble_eq_true rfl)⟩) ⟨k_blindS, (k_recv hK hH (lt_n hn (by decide)) Ec_1 rfl), k_preS hK hN hX hH hw⟩ rfl rfl hl.1 rfl (lv_room (Nat.le_of_ble_eq_true rfl)) dX4_readOne_38 ⟨Nat.le_refl _, Nat.le_refl _⟩) hH (fun r8 S7 H locs hw hH => ?_)
      refine lv_if_eq (tgt := 52) hx hb dX4_readOne_41 (by decide) (fun hc9 => ?_) (fun hc9 => ?_)
      · replace hw := hw.1 hc9
        refine lv_aload_n hx hb dX4_readOne_52 rfl (lv_at hl 1 rfl) ?_
        refine va_ldcS hx hb hown (hX.2.2.2 (57, "today", 10) (List.mem_of_getElem? (i := 10) rfl)) dX4_readOne_53 ?_
        refine k_afti (va_runV (As := [.ref (adK 10)]) (rest := []) ⟨hx, hb, hml, hown, hts⟩ (c_X4_isWord l D kA ly n hn A adK adV 10 S7 _) (cwV 1 hts gX4_readOne_X4_isWord rfl rfl rfl (by decide +kernel) ⟨(Nat.le_of_ble_eq_true rfl), (Nat.le_of_ble_eq_true rfl)⟩) ⟨k_blindS, (k_recv hK hH (lt_n hn (by decide)) Ec_1 rfl), k_preS hK hN hX hH hw⟩ rfl rfl hl.1 rfl (lv_room (Nat.le_of_ble_eq_true rfl)) dX4_readOne_55 ⟨Nat.le_refl _, Nat.le_refl _⟩) hH (fun r11 S10 H locs hw hH => ?_)
        refine lv_if_eq (tgt := 75) hx hb dX4_readOne_58 (by decide) (fun hc12 => ?_) (fun hc12 => ?_)
        · replace hw := hw.1 hc12
          refine lv_aload_n hx hb dX4_readOne_75 rfl (lv_at hl 1 rfl) ?_
          refine k_aftv (va_runV (As := []) (rest := []) ⟨hx, hb, hml, hown, hts⟩ (c_X4_fail l D kA ly n hn A S10 _) (cwV 0 hts gX4_readOne_X4_fail rfl rfl rfl (by decide +kernel) ⟨(Nat.le_of_ble_eq_true rfl), (Nat.le_of_ble_eq_true rfl)⟩) ⟨k_blind, (k_recv hK hH (lt_n hn (by decide)) Ec_1 rfl), k_pre hK hN hH hw⟩ rfl rfl hl.1 rfl (lv_room (Nat.le_of_ble_eq_true rfl)) dX4_readOne_76 ⟨Nat.le_refl _, Nat.le_refl _⟩) hH (fun S13 H locs hw hH => ?_)
          refine lv_aload_n hx hb dX4_readOne_79 rfl (lv_at hl 1 rfl) ?_
          refine lv_bipush (v := 59) hx hb dX4_readOne_80 (by decide +kernel) ?_
          refine k_aftv (va_runV (As := [.int (59 : Int32)]) (rest := []) ⟨hx, hb, hml, hown, hts⟩ (c_X4_needSign l D kA ly n hn A (59 : Int32) S13 _) (cwV 1 hts gX4_readOne_X4_needSign rfl rfl rfl (by decide +kernel) ⟨(Nat.le_of_ble_eq_true rfl), (Nat.le_of_ble_eq_true rfl)⟩) ⟨k_blind, (k_recv hK hH (lt_n hn (by decide)) Ec_1 rfl), k_pre hK hN hH hw⟩ rfl rfl hl.1 rfl (lv_room (Nat.le_of_ble_eq_true rfl)) dX4_readOne_82 ⟨Nat.le_refl _, Nat.le_refl _⟩) hH (fun S14 H locs hw hH => ?_)
          exact k_vret hx hb hr hlocks hK hN hH hw dX4_readOne_85
        · replace hw := hw.2 hc12
          refine lv_aload_n hx hb dX4_readOne_61 rfl (lv_at hl 2 rfl) ?_
          refine lv_aload_n hx hb dX4_readOne_62 rfl (lv_at hl 1 rfl) ?_
          refine lv_iconst (v := 0) hx hb dX4_readOne_63 (by decide +kernel) ?_
          refine lv_bipush (v := 50) hx hb dX4_readOne_64 (by decide +kernel) ?_
          refine k_afti (va_runV (As := [.int (0 : Int32), .int (50 : Int32)]) (rest := [.ref (ly a1)]) ⟨hx, hb, hml, hown, hts⟩ (c_X4_readNumber l D kA ly n hn A (0 : Int32) (50 : Int32) S10 _) (cwV 2 hts gX4_readOne_X4_readNumber rfl rfl rfl (by decide +kernel) ⟨(Nat.le_of_ble_eq_true rfl), (Nat.le_of_ble_eq_true rfl)⟩) ⟨k_blind, (k_recv hK hH (lt_n hn (by decide)) Ec_1 rfl), k_pre hK hN hH hw⟩ rfl rfl hl.1 rfl (lv_room (Nat.le_of_ble_eq_true rfl)) dX4_readOne_66 ⟨Nat.le_refl _, Nat.le_refl _⟩) hH (fun r16 S15 H locs hw hH => ?_)
          refine pf_w_4 hx hb hts hiX10 hown hK hn hH ha1 lk0 dX4_readOne_69 (fun S17 H locs eS17 hH => ?_)
          replace hw := hw S17 eS17
          refine lv_goto (tgt := 79) hx hb dX4_readOne_72 (by decide) ?_
          refine lv_aload_n hx hb dX4_readOne_79 rfl (lv_at hl 1 rfl) ?_
          refine lv_bipush (v := 59) hx hb dX4_readOne_80 (by decide +kernel) ?_
          refine k_aftv (va_runV (As := [.int (59 : Int32)]) (rest := []) ⟨hx, hb, hml, hown, hts⟩ (c_X4_needSign l D kA ly n hn A (59 : Int32) S17 _) (cwV 1 hts gX4_readOne_X4_needSign rfl rfl rfl (by decide +kernel) ⟨(Nat.le_of_ble_eq_true rfl), (Nat.le_of_ble_eq_true rfl)⟩) ⟨k_blind, (k_recv hK hH (lt_n hn (by decide)) Ec_1 rfl), k_pre hK hN hH hw⟩ rfl rfl hl.1 rfl (lv_room (Nat.le_of_ble_eq_true rfl)) dX4_readOne_82 ⟨Nat.le_refl _, Nat.le_refl _⟩) hH (fun S18 H locs hw hH => ?_)
          exact k_vret hx hb hr hlocks hK hN hH hw dX4_readOne_85
      · replace hw := hw.2 hc9
        refine lv_aload_n hx hb dX4_readOne_44 rfl (lv_at hl 1 rfl) ?_
        refine lv_aload_n hx hb dX4_readOne_45 rfl (lv_at hl 2 rfl) ?_
        refine k_aftv (va_runV (As := [.ref (ly a1)]) (rest := []) ⟨hx, hb, hml, hown, hts⟩ (c_X4_readLove l D kA ly n hn A a1 S7 _) (cwV 1 hts gX4_readOne_X4_readLove rfl rfl rfl (by decide +kernel) ⟨(Nat.le_of_ble_eq_true rfl), (Nat.le_of_ble_eq_true rfl)⟩) ⟨k_blind, (k_recv hK hH (lt_n hn (by decide)) Ec_1 rfl), k_pre hK hN hH hw⟩ rfl rfl hl.1 rfl (lv_room (Nat.le_of_ble_eq_true rfl)) dX4_readOne_46 ⟨Nat.le_refl _, Nat.le_refl _⟩) hH (fun S19 H locs hw hH => ?_)
        refine lv_goto (tgt := 79) hx hb dX4_readOne_49 (by decide) ?_
        refine lv_aload_n hx hb dX4_readOne_79 rfl (lv_at hl 1 rfl) ?_
        refine lv_bipush (v := 59) hx hb dX4_readOne_80 (by decide +kernel) ?_
        refine k_aftv (va_runV (As := [.int (59 : Int32)]) (rest := []) ⟨hx, hb, hml, hown, hts⟩ (c_X4_needSign l D kA ly n hn A (59 : Int32) S19 _) (cwV 1 hts gX4_readOne_X4_needSign rfl rfl rfl (by decide +kernel) ⟨(Nat.le_of_ble_eq_true rfl), (Nat.le_of_ble_eq_true rfl)⟩) ⟨k_blind, (k_recv hK hH (lt_n hn (by decide)) Ec_1 rfl), k_pre hK hN hH hw⟩ rfl rfl hl.1 rfl (lv_room (Nat.le_of_ble_eq_true rfl)) dX4_readOne_82 ⟨Nat.le_refl _, Nat.le_refl _⟩) hH (fun S20 H locs hw hH => ?_)
        exact k_vret hx hb hr hlocks hK hN hH hw dX4_readOne_85
    · replace hw := hw.2 hc6
      refine lv_aload_n hx hb dX4_readOne_27 rfl (lv_at hl 1 rfl) ?_
      refine lv_aload_n hx hb dX4_readOne_28 rfl (lv_at hl 2 rfl) ?_
      refine k_aftv (va_runV (As := [.ref (ly a1)]) (rest := []) ⟨hx, hb, hml, hown, hts⟩ (c_X4_readView l D kA ly n hn A adK adV a1 S4 _) (cwV 1 hts gX4_readOne_X4_readView rfl rfl rfl (by decide +kernel) ⟨(Nat.le_of_ble_eq_true rfl), (Nat.le_of_ble_eq_true rfl)⟩) ⟨k_blindS, (k_recv hK hH (lt_n hn (by decide)) Ec_1 rfl), k_preS hK hN hX hH hw⟩ rfl rfl hl.1 rfl (lv_room (Nat.le_of_ble_eq_true rfl)) dX4_readOne_29 ⟨Nat.le_refl _, Nat.le_refl _⟩) hH (fun S21 H locs hw hH => ?_)
      refine lv_goto (tgt := 79) hx hb dX4_readOne_32 (by decide) ?_
      refine lv_aload_n hx hb dX4_readOne_79 rfl (lv_at hl 1 rfl) ?_
      refine lv_bipush (v := 59) hx hb dX4_readOne_80 (by decide +kernel) ?_
      refine k_aftv (va_runV (As := [.int (59 : Int32)]) (rest := []) ⟨hx, hb, hml, hown, hts⟩ (c_X4_needSign l D kA ly n hn A (59 : Int32) S21 _) (cwV 1 hts gX4_readOne_X4_needSign rfl rfl rfl (by decide +kernel) ⟨(Nat.le_of_ble_eq_true rfl), (Nat.le_of_ble_eq_true rfl)⟩) ⟨k_blind, (k_recv hK hH (lt_n hn (by decide)) Ec_1 rfl), k_pre hK hN hH hw⟩ rfl rfl hl.1 rfl (lv_room (Nat.le_of_ble_eq_true rfl)) dX4_readOne_82 ⟨Nat.le_refl _, Nat.le_refl _⟩) hH (fun S22 H locs hw hH => ?_)
      exact k_vret hx hb hr hlocks hK hN hH hw dX4_readOne_85
  · replace hw := hw.2 hc3
    refine lv_aload_n hx hb dX4_readOne_9 rfl (lv_at hl 1 rfl) ?_
    refine lv_aload_n hx hb dX4_readOne_10 rfl (lv_at hl 2 rfl) ?_
    refine lv_iload_n hx hb dX4_readOne_11 rfl (lv_at hl 0 rfl) ?_
    refine k_aftv (va_runV (As := [.ref (ly a1), .int r2]) (rest := []) ⟨hx, hb, hml, hown, hts⟩ (c_X4_readPane l D kA ly n hn A adK adV a1 r2 S1 _) (cwV 2 hts gX4_readOne_X4_readPane rfl rfl rfl (by decide +kernel) ⟨(Nat.le_of_ble_eq_true rfl), (Nat.le_of_ble_eq_true rfl)⟩) ⟨k_blindS, (k_recv hK hH (lt_n hn (by decide)) Ec_1 rfl), k_preS hK hN hX hH hw⟩ rfl rfl hl.1 rfl (lv_room (Nat.le_of_ble_eq_true rfl)) dX4_readOne_12 ⟨Nat.le_refl _, Nat.le_refl _⟩) hH (fun S23 H locs hw hH => ?_)
    refine lv_goto (tgt := 79) hx hb dX4_readOne_15 (by decide) ?_
    refine lv_aload_n hx hb dX4_readOne_79 rfl (lv_at hl 1 rfl) ?_
    refine lv_bipush (v := 59) hx hb dX4_readOne_80 (by decide +kernel) ?_
    refine k_aftv (va_runV (As := [.int (59 : Int32)]) (rest := []) ⟨hx, hb, hml, hown, hts⟩ (c_X4_needSign l D kA ly n hn A (59 : Int32) S23 _) (cwV 1 hts gX4_readOne_X4_needSign rfl rfl rfl (by decide +kernel) ⟨(Nat.le_of_ble_eq_true rfl), (Nat.le_of_ble_eq_true rfl)⟩) ⟨k_blind, (k_recv hK hH (lt_n hn (by decide)) Ec_1 rfl), k_pre hK hN hH hw⟩ rfl rfl hl.1 rfl (lv_room (Nat.le_of_ble_eq_true rfl)) dX4_readOne_82 ⟨Nat.le_refl _, Nat.le_refl _⟩) hH (fun S24 H locs hw hH => ?_)
    exact k_vret hx hb hr hlocks hK hN hH hw dX4_readOne_85
def wl_X4_readInto_16 (a1 : Nat) (K_16 : Int32 → St → Prop) : Nat → Int32 → St → Prop
  | 0, _, _ => False
  | fu_16 + 1, v2_16, S_16 => (((200 : Int32) ≤ v2_16 → K_16 v2_16 S_16) ∧ (¬ (200 : Int32) ≤ v2_16 → (((gI S_16 1 1) ≤ (gI S_16 1 2) → K_16 v2_16 S_16) ∧ (¬ (gI S_16 1 1) ≤ (gI S_16 1 2) → ((0 ≤ (gI S_16 1 4) → K_16 v2_16 S_16) ∧ (¬ 0 ≤ (gI S_16 1 4) → wp_X4_readOne a1 S_16 (fun S7 => wp_X4_look S7 (fun S8 => (∀ t9 : Int32, t9 = v2_16 + 1 → wl_X4_readInto_16 a1 K_16 fu_16 t9 S8)))))))))
def wp_X4_readInto (a1 : Nat) (S : St) (Q : Int32 → St → Prop) : Prop := (isW a1 ∧ (∀ S1 : St, S1 = sI S 1 2 (0 : Int32) → (∀ S2 : St, S2 = sI S1 1 4 (-1 : Int32) → wp_X4_look S2 (fun S3 => (∃ m_16 : Nat, wl_X4_readInto_16 a1 (fun e2_10 S11 => (∀ S12 : St, S12 = sI S11 1 1 (0 : Int32) → Q (gI S12 1 4) S12)) m_16 (0 : Int32) S3)))))
set_option maxHeartbeats 4000000 in
set_option maxRecDepth 100000 in
theorem c_X4_readInto (l : Launch) (D : va_G) (kA : Nat → ClassId) (ly : Nat → Nat) (n : List Nat) (hn : ∀ c, c < 59 → c ∈ n) (A : Nat → Prop) (adK adV : Nat → Nat) (a1 : Nat) : CiS l yX4_readInto wsX4_readInto 8 175 (Gp D (Ec kA ly) ly n A kA) adK adV A [.ref (ly 1), .ref (ly a1)] (wp_X4_readInto a1) := by
  intro S Q
  refine Met.ofW (cc := cX4_readInto) (maxL := 3) (ret := (some .int)) (by decide) rfl ?_
  intro p e s m args below meth c s₁ B hml hv
  obtain ⟨rfl, ⟨⟨hP, hD, hK, hN⟩, hX⟩, hw⟩ := hv
  have hx := B.exec
  have hb := B.bytes
  have hr := B.returns
  have hts := atoms_spec (ws := wsX4_readInto) B.pre
  have hown : s.vm.findClass RX4 = some m.cls := findClass_of_methodNamed B.named
  have hlocks := B.notSynchronized
  have hH : Hp D (Ec kA ly) ly n A s.heap S s.heap [] := ⟨hP, hD, va_S.rf⟩
  have hiX4 : ∀ w ∈ u_ws RX4 TX4 5, w ∈ wsX4_readInto := by decide +kernel
  have lk0 := hts (.fieldLink RX4 19 "SlowPanes$Quarry" "at" "I") (by decide +kernel)
  have lk1 := hts (.fieldLink RX4 25 "SlowPanes$Quarry" "fault" "I") (by decide +kernel)
  have lk2 := hts (.fieldLink RX4 15 "SlowPanes$Quarry" "length" "I") (by decide +kernel)
  have hl := lv_entry ([.ref (ly 1), .ref (ly a1)]) (n := 3) (Nat.le_of_ble_eq_true rfl)
  rw [lg_entry_eq]
  generalize (lg_sl ([.ref (ly 1), .ref (ly a1)]) ++ List.replicate (3 - (lg_sl ([.ref (ly 1), .ref (ly a1)])).length) Slot.unset).toArray = ls at hl ⊢
  have hl : lv_has ls 3 [(0, .ref (ly 1)), (1, .ref (ly a1))] := hl
  rw [wp_X4_readInto] at hw
  obtain ⟨ha1, hw⟩ := hw
  refine lv_aload_n hx hb dX4_readInto_0 rfl (lv_at hl 0 rfl) ?_
  refine lv_iconst (v := 0) hx hb dX4_readInto_1 (by decide +kernel) ?_
  refine pf_tape_2 hx hb hts hiX4 hown hK hn hH lk0 dX4_readInto_2 (fun S1 H locs eS1 hH => ?_)
  replace hw := hw S1 eS1
  refine lv_aload_n hx hb dX4_readInto_5 rfl (lv_at hl 0 rfl) ?_
  refine lv_iconst (v := -1) hx hb dX4_readInto_6 (by decide +kernel) ?_
  refine pf_tape_4 hx hb hts hiX4 hown hK hn hH lk1 dX4_readInto_7 (fun S2 H locs eS2 hH => ?_)
  replace hw := hw S2 eS2
  refine lv_aload_n hx hb dX4_readInto_10 rfl (lv_at hl 0 rfl) ?_
  refine k_aftv (va_runV (As := []) (rest := []) ⟨hx, hb, hml, hown, hts⟩ (c_X4_look l D kA ly n hn A S2 _) (cwV 0 hts gX4_readInto_X4_look rfl rfl rfl (by decide +kernel) ⟨(Nat.le_of_ble_eq_true rfl), (Nat.le_of_ble_eq_true rfl)⟩) ⟨k_blind, (k_recv hK hH (lt_n hn (by decide)) Ec_1 rfl), k_pre hK hN hH hw⟩ rfl rfl hl.1 rfl (lv_room (Nat.le_of_ble_eq_true rfl)) dX4_readInto_11 ⟨Nat.le_refl _, Nat.le_refl _⟩) hH (fun S3 H locs hw hH => ?_)
  refine lv_iconst (v := 0) hx hb dX4_readInto_14 (by decide +kernel) ?_
  refine lv_istore_n (lv' := [(2, .int (0 : Int32)), (0, .ref (ly 1)), (1, .ref (ly a1))]) hx hb dX4_readInto_15 rfl hl (by decide) rfl (fun ls hl => ?_)
  have L_16 : ∀ (K_16 : Int32 → St → Prop) (hk_16 : ∀ (v2_16 : Int32) (S_16 : St) (H : Heap) (locs : List Loc) (ls : Array Slot), K_16 v2_16 S_16 → Hp D (Ec kA ly) ly n A s.heap S_16 H locs → lv_has ls 3 [(0, .ref (ly 1)), (1, .ref (ly a1)), (2, .int v2_16)] → W p l e (headSpec wsX4_readInto { frames := 8, cells := 0, slots := 0, locals := 175 }).room s m [.ref (ly 1), .ref (ly a1)].toArray below meth c H locs 0 0 (MQ below (va_Qi Q (Gp D (Ec kA ly) ly n A kA) A) [.ref (ly 1), .ref (ly a1)].toArray s 0 0 A) (F0 m 56 ls [])) (fu_16 : Nat) (v2_16 : Int32) (S_16 : St) (H : Heap) (locs : List Loc) (ls : Array Slot), wl_X4_readInto_16 a1 K_16 fu_16 v2_16 S_16 → Hp D (Ec kA ly) ly n A s.heap S_16 H locs → lv_has ls 3 [(0, .ref (ly 1)), (1, .ref (ly a1)), (2, .int v2_16)] → W p l e (headSpec wsX4_readInto { frames := 8, cells := 0, slots := 0, locals := 175 }).room s m [.ref (ly 1), .ref (ly a1)].toArray below meth c H locs 0 0 (MQ below (va_Qi Q (Gp D (Ec kA ly) ly n A kA) A) [.ref (ly 1), .ref (ly a1)].toArray s 0 0 A) (F0 m 16 ls []) := by
    intro K_16 hk_16 fu_16
    induction fu_16 with
    | zero => intro v2_16 S_16 H locs ls hw hH hl; rw [wl_X4_readInto_16] at hw; exact hw.elim
    | succ fu_16 ih_16 =>
      intro v2_16 S_16 H locs ls hw hH hl
      rw [wl_X4_readInto_16] at hw
      refine lv_iload_n hx hb dX4_readInto_16 rfl (lv_at hl 2 rfl) ?_
      refine lv_sipush (v := 200) hx hb dX4_readInto_17 (by decide +kernel) ?_
      refine lv_icmp_ge (tgt := 56) hx hb dX4_readInto_20 (by decide) (fun hc4 => ?_) (fun hc4 => ?_)
      · replace hw := hw.1 hc4
        exact hk_16 v2_16 S_16 _ _ ls hw hH (lv_sub hl [0, 1, 2] rfl)
      · replace hw := hw.2 hc4
        refine lv_aload_n hx hb dX4_readInto_23 rfl (lv_at hl 0 rfl) ?_
        refine gf_tape_2 hx hb hts hiX4 hown hK hn hH lk0 dX4_readInto_24 ?_
        refine lv_aload_n hx hb dX4_readInto_27 rfl (lv_at hl 0 rfl) ?_
        refine gf_tape_1 hx hb hts hiX4 hown hK hn hH lk2 dX4_readInto_28 ?_
        refine lv_icmp_ge (tgt := 56) hx hb dX4_readInto_31 (by decide) (fun hc5 => ?_) (fun hc5 => ?_)
        · replace hw := hw.1 hc5
          exact hk_16 v2_16 S_16 _ _ ls hw hH (lv_sub hl [0, 1, 2] rfl)
        · replace hw := hw.2 hc5
          refine lv_aload_n hx hb dX4_readInto_34 rfl (lv_at hl 0 rfl) ?_
          refine gf_tape_4 hx hb hts hiX4 hown hK hn hH lk1 dX4_readInto_35 ?_
          refine lv_if_ge (tgt := 56) hx hb dX4_readInto_38 (by decide) (fun hc6 => ?_) (fun hc6 => ?_)
          · replace hw := hw.1 hc6
            exact hk_16 v2_16 S_16 _ _ ls hw hH (lv_sub hl [0, 1, 2] rfl)
          · replace hw := hw.2 hc6
            refine lv_aload_n hx hb dX4_readInto_41 rfl (lv_at hl 0 rfl) ?_
            refine lv_aload_n hx hb dX4_readInto_42 rfl (lv_at hl 1 rfl) ?_
            refine k_aftv (va_runV (As := [.ref (ly a1)]) (rest := []) ⟨hx, hb, hml, hown, hts⟩ (c_X4_readOne l D kA ly n hn A adK adV a1 S_16 _) (cwV 1 hts gX4_readInto_X4_readOne rfl rfl rfl (by decide +kernel) ⟨(Nat.le_of_ble_eq_true rfl), (Nat.le_of_ble_eq_true rfl)⟩) ⟨k_blindS, (k_recv hK hH (lt_n hn (by decide)) Ec_1 rfl), k_preS hK hN hX hH hw⟩ rfl rfl hl.1 rfl (lv_room (Nat.le_of_ble_eq_true rfl)) dX4_readInto_43 ⟨Nat.le_refl _, Nat.le_refl _⟩) hH (fun S7 H locs hw hH => ?_)
            refine lv_aload_n hx hb dX4_readInto_46 rfl (lv_at hl 0 rfl) ?_
            refine k_aftv (va_runV (As := []) (rest := []) ⟨hx, hb, hml, hown, hts⟩ (c_X4_look l D kA ly n hn A S7 _) (cwV 0 hts gX4_readInto_X4_look rfl rfl rfl (by decide +kernel) ⟨(Nat.le_of_ble_eq_true rfl), (Nat.le_of_ble_eq_true rfl)⟩) ⟨k_blind, (k_recv hK hH (lt_n hn (by decide)) Ec_1 rfl), k_pre hK hN hH hw⟩ rfl rfl hl.1 rfl (lv_room (Nat.le_of_ble_eq_true rfl)) dX4_readInto_47 ⟨Nat.le_refl _, Nat.le_refl _⟩) hH (fun S8 H locs hw hH => ?_)
            obtain ⟨t9, et9⟩ : ∃ y : Int32, y = v2_16 + 1 := ⟨_, rfl⟩
            replace hw := hw t9 et9
            refine lv_iinc (v := t9) (lv' := [(2, .int t9), (0, .ref (ly 1)), (1, .ref (ly a1))]) hx hb dX4_readInto_50 hl (k := 2) rfl (by rw [et9]; rfl) (by decide) rfl (fun ls hl => ?_)
            refine lv_goto (tgt := 16) hx hb dX4_readInto_53 (by decide) ?_
            exact ih_16 t9 S8 _ _ ls hw hH (lv_sub hl [1, 2, 0] rfl)
  obtain ⟨m_16, hw⟩ := hw
  refine L_16 _ (fun e2_10 S11 H locs ls hw hH hl => ?_) m_16 (0 : Int32) S3 _ _ ls hw hH (lv_sub hl [1, 2, 0] rfl)
  refine lv_aload_n hx hb dX4_readInto_56 rfl (lv_at hl 0 rfl) ?_
  refine lv_iconst (v := 0) hx hb dX4_readInto_57 (by decide +kernel) ?_
  refine pf_tape_1 hx hb hts hiX4 hown hK hn hH lk2 dX4_readInto_58 (fun S12 H locs eS12 hH => ?_)
  replace hw := hw S12 eS12
  refine lv_aload_n hx hb dX4_readInto_61 rfl (lv_at hl 0 rfl) ?_
  refine gf_tape_4 hx hb hts hiX4 hown hK hn hH lk1 dX4_readInto_62 ?_
  exact k_iret hx hb hr hlocks hK hN hH hw dX4_readInto_65
def wp_X11_quarry  (S : St) (Q : Int32 → St → Prop) : Prop := (∀ o1 : Nat, o1 = (gN S 0 9) → isW o1 ∧ wp_X10_clear o1 S (fun S2 => (∀ o3 : Nat, o3 = (gN S2 0 9) → isW o3 ∧ (∀ o4 : Nat, o4 = (gN S2 0 8) → isW o4 ∧ (∀ S5 : St, S5 = sI S2 o3 5 (gI S2 o4 5) → (∀ o6 : Nat, o6 = (gN S5 0 9) → isW o6 ∧ wp_X4_readInto o6 S5 (fun r8 S7 => ((r8 < 0 → (∀ o10 : Nat, o10 = (gN S7 0 8) → isW o10 ∧ (∀ o11 : Nat, o11 = (gN S7 0 9) → isW o11 ∧ (∀ S12 : St, S12 = sN S7 0 8 o11 → (∀ S13 : St, S13 = sN S12 0 9 o10 → (∀ S14 : St, S14 = sI S13 0 11 (0 : Int32) → (∀ o15 : Nat, o15 = (gN S14 0 8) → isW o15 ∧ Q (gI S14 o15 3) S14))))))) ∧ (¬ r8 < 0 → Q ((-100 : Int32) - r8) S7)))))))))
set_option maxHeartbeats 4000000 in
set_option maxRecDepth 100000 in
theorem c_X11_quarry (l : Launch) (D : va_G) (kA : Nat → ClassId) (ly : Nat → Nat) (n : List Nat) (hn : ∀ c, c < 59 → c ∈ n) (A : Nat → Prop) (adK adV : Nat → Nat)  : CiS l yX11_quarry wsX11_quarry 9 197 (Gp D (Ec kA ly) ly n A kA) adK adV A [.ref (ly 0)] (wp_X11_quarry) := by
  intro S Q
  refine Met.ofW (cc := cX11_quarry) (maxL := 3) (ret := (some .int)) (by decide) rfl ?_
  intro p e s m args below meth c s₁ B hml hv
  obtain ⟨rfl, ⟨⟨hP, hD, hK, hN⟩, hX⟩, hw⟩ := hv
  have hx := B.exec
  have hb := B.bytes
  have hr := B.returns
  have hts := atoms_spec (ws := wsX11_quarry) B.pre
  have hown : s.vm.findClass RX11 = some m.cls := findClass_of_methodNamed B.named
  have hlocks := B.notSynchronized
  have hH : Hp D (Ec kA ly) ly n A s.heap S s.heap [] := ⟨hP, hD, va_S.rf⟩
  have hiX11 : ∀ w ∈ u_ws RX11 TX11 12, w ∈ wsX11_quarry := by decide +kernel
  have hiX10 : ∀ w ∈ u_ws RX10 TX10 6, w ∈ wsX11_quarry := by decide +kernel
  have lk0 := hts (.fieldLink RX11 56 "SlowPanes" "spare" "LSlowPanes$World;") (by decide +kernel)
  have lk1 := hts (.fieldLink RX11 53 "SlowPanes" "world" "LSlowPanes$World;") (by decide +kernel)
  have lk2 := hts (.fieldLink RX11 77 "SlowPanes$World" "z" "I") (by decide +kernel)
  have lk3 := hts (.fieldLink RX11 19 "SlowPanes" "tape" "LSlowPanes$Quarry;") (by decide +kernel)
  have lk4 := hts (.fieldLink RX11 63 "SlowPanes" "rowCount" "I") (by decide +kernel)
  have lk5 := hts (.fieldLink RX11 84 "SlowPanes$World" "count" "I") (by decide +kernel)
  have hl := lv_entry ([.ref (ly 0)]) (n := 3) (Nat.le_of_ble_eq_true rfl)
  rw [lg_entry_eq]
  generalize (lg_sl ([.ref (ly 0)]) ++ List.replicate (3 - (lg_sl ([.ref (ly 0)])).length) Slot.unset).toArray = ls at hl ⊢
  have hl : lv_has ls 3 [(0, .ref (ly 0))] := hl
  rw [wp_X11_quarry] at hw
  refine lv_aload_n hx hb dX11_quarry_0 rfl (lv_at hl 0 rfl) ?_
  refine gf_this_9 hx hb hts hiX11 hown hK hn hH lk0 dX11_quarry_1 ?_
  obtain ⟨o1, eo1⟩ : ∃ y : Nat, y = (gN S 0 9) := ⟨_, rfl⟩
  obtain ⟨ho1, hw⟩ := hw o1 eo1
  rw [← eo1]
  refine k_aftv (va_runV (As := []) (rest := []) ⟨hx, hb, hml, hown, hts⟩ (c_X10_clear l D kA ly n hn A o1 S _) (cwV 0 hts gX11_quarry_X10_clear rfl rfl rfl (by decide +kernel) ⟨(Nat.le_of_ble_eq_true rfl), (Nat.le_of_ble_eq_true rfl)⟩) ⟨k_blind, (k_recv hK hH (w_lt0 hn ho1) (Ec_w ho1) rfl), k_pre hK hN hH hw⟩ rfl rfl hl.1 rfl (lv_room (Nat.le_of_ble_eq_true rfl)) dX11_quarry_4 ⟨Nat.le_refl _, Nat.le_refl _⟩) hH (fun S2 H locs hw hH => ?_)
  refine lv_aload_n hx hb dX11_quarry_7 rfl (lv_at hl 0 rfl) ?_
  refine gf_this_9 hx hb hts hiX11 hown hK hn hH lk0 dX11_quarry_8 ?_
  obtain ⟨o3, eo3⟩ : ∃ y : Nat, y = (gN S2 0 9) := ⟨_, rfl⟩
  obtain ⟨ho3, hw⟩ := hw o3 eo3
  rw [← eo3]
  refine lv_aload_n hx hb dX11_quarry_11 rfl (lv_at hl 0 rfl) ?_
  refine gf_this_8 hx hb hts hiX11 hown hK hn hH lk1 dX11_quarry_12 ?_
  obtain ⟨o4, eo4⟩ : ∃ y : Nat, y = (gN S2 0 8) := ⟨_, rfl⟩
  obtain ⟨ho4, hw⟩ := hw o4 eo4
  rw [← eo4]
  refine gf_w_5 hx hb hts hiX10 hown hK hn hH ho4 lk2 dX11_quarry_15 ?_
  refine pf_w_5 hx hb hts hiX10 hown hK hn hH ho3 lk2 dX11_quarry_18 (fun S5 H locs eS5 hH => ?_)
  replace hw := hw S5 eS5
  refine lv_aload_n hx hb dX11_quarry_21 rfl (lv_at hl 0 rfl) ?_
  refine gf_this_1 hx hb hts hiX11 hown hK hn hH lk3 dX11_quarry_22 ?_
  refine lv_aload_n hx hb dX11_quarry_25 rfl (lv_at hl 0 rfl) ?_
  refine gf_this_9 hx hb hts hiX11 hown hK hn hH lk0 dX11_quarry_26 ?_
  obtain ⟨o6, eo6⟩ : ∃ y : Nat, y = (gN S5 0 9) := ⟨_, rfl⟩
  obtain ⟨ho6, hw⟩ := hw o6 eo6
  rw [← eo6]
  refine k_afti (va_runV (As := [.ref (ly o6)]) (rest := []) ⟨hx, hb, hml, hown, hts⟩ (c_X4_readInto l D kA ly n hn A adK adV o6 S5 _) (cwV 1 hts gX11_quarry_X4_readInto rfl rfl rfl (by decide +kernel) ⟨(Nat.le_of_ble_eq_true rfl), (Nat.le_of_ble_eq_true rfl)⟩) ⟨k_blindS, (k_recv hK hH (lt_n hn (by decide)) Ec_1 rfl), k_preS hK hN hX hH hw⟩ rfl rfl hl.1 rfl (lv_room (Nat.le_of_ble_eq_true rfl)) dX11_quarry_29 ⟨Nat.le_refl _, Nat.le_refl _⟩) hH (fun r8 S7 H locs hw hH => ?_)
  refine lv_istore_n (lv' := [(1, .int r8), (0, .ref (ly 0))]) hx hb dX11_quarry_32 rfl hl (by decide) rfl (fun ls hl => ?_)
  refine lv_iload_n hx hb dX11_quarry_33 rfl (lv_at hl 0 rfl) ?_
  refine lv_if_lt (tgt := 42) hx hb dX11_quarry_34 (by decide) (fun hc9 => ?_) (fun hc9 => ?_)
  · replace hw := hw.1 hc9
    refine lv_aload_n hx hb dX11_quarry_42 rfl (lv_at hl 1 rfl) ?_
    refine gf_this_8 hx hb hts hiX11 hown hK hn hH lk1 dX11_quarry_43 ?_
    obtain ⟨o10, eo10⟩ : ∃ y : Nat, y = (gN S7 0 8) := ⟨_, rfl⟩
    obtain ⟨ho10, hw⟩ := hw o10 eo10
    rw [← eo10]
    refine lv_astore_n (lv' := [(2, .ref (ly o10)), (1, .int r8), (0, .ref (ly 0))]) hx hb dX11_quarry_46 rfl hl (by decide) rfl (fun ls hl => ?_)
    refine lv_aload_n hx hb dX11_quarry_47 rfl (lv_at hl 2 rfl) ?_
    refine lv_aload_n hx hb dX11_quarry_48 rfl (lv_at hl 2 rfl) ?_
    refine gf_this_9 hx hb hts hiX11 hown hK hn hH lk0 dX11_quarry_49 ?_
    obtain ⟨o11, eo11⟩ : ∃ y : Nat, y = (gN S7 0 9) := ⟨_, rfl⟩
    obtain ⟨ho11, hw⟩ := hw o11 eo11
    rw [← eo11]
    refine pf_this_8 hx hb hts hiX11 hown hK hn hH lk1 dX11_quarry_52 (fun S12 H locs eS12 hH => ?_)
    replace hw := hw S12 eS12
    refine lv_aload_n hx hb dX11_quarry_55 rfl (lv_at hl 2 rfl) ?_
    refine lv_aload_n hx hb dX11_quarry_56 rfl (lv_at hl 0 rfl) ?_
    refine pf_this_9 hx hb hts hiX11 hown hK hn hH lk0 dX11_quarry_57 (fun S13 H locs eS13 hH => ?_)
    replace hw := hw S13 eS13
    refine lv_aload_n hx hb dX11_quarry_60 rfl (lv_at hl 2 rfl) ?_
    refine lv_iconst (v := 0) hx hb dX11_quarry_61 (by decide +kernel) ?_
    refine pf_this_11 hx hb hts hiX11 hown hK hn hH lk4 dX11_quarry_62 (fun S14 H locs eS14 hH => ?_)
    replace hw := hw S14 eS14
    refine lv_aload_n hx hb dX11_quarry_65 rfl (lv_at hl 2 rfl) ?_
    refine gf_this_8 hx hb hts hiX11 hown hK hn hH lk1 dX11_quarry_66 ?_
    obtain ⟨o15, eo15⟩ : ∃ y : Nat, y = (gN S14 0 8) := ⟨_, rfl⟩
    obtain ⟨ho15, hw⟩ := hw o15 eo15
    rw [← eo15]
    refine gf_w_3 hx hb hts hiX10 hown hK hn hH ho15 lk5 dX11_quarry_69 ?_
    exact k_iret hx hb hr hlocks hK hN hH hw dX11_quarry_72
  · replace hw := hw.2 hc9
    refine lv_bipush (v := -100) hx hb dX11_quarry_37 (by decide +kernel) ?_
    refine lv_iload_n hx hb dX11_quarry_39 rfl (lv_at hl 0 rfl) ?_
    refine lv_isub hx hb dX11_quarry_40 ?_
    exact k_iret hx hb hr hlocks hK hN hH hw dX11_quarry_41
