def wl_X12_prove_33  (K_33 : Int32 → St → Prop) : Nat → Int32 → St → Prop
  | 0, _, _ => False
  | fu_33 + 1, v3_33, S_33 => ((((3 : Int32) * (gI S_33 0 21)) ≤ v3_33 → K_33 v3_33 S_33) ∧ (¬ ((3 : Int32) * (gI S_33 0 21)) ≤ v3_33 → (vp_in v3_33 60 ∧ (vp_in v3_33 60 ∧ ∀ S12 : St, S12 = sA S_33 9 v3_33.toNatClampNeg (gA S_33 10 v3_33.toNatClampNeg) → (∀ t13 : Int32, t13 = v3_33 + 1 → wl_X12_prove_33 K_33 fu_33 t13 S12)))))
def wp_X12_prove (a1 : Int32) (a2 : Int32) (S : St) (Q : Int32 → St → Prop) : Prop := wp_X12_isPane a1 S (fun r2 S1 => ((r2 = 0 → Q (-1 : Int32) S1) ∧ (¬ r2 = 0 → wp_X12_isLong a2 S1 (fun r5 S4 => ((r5 = 0 → Q (-1 : Int32) S4) ∧ (¬ r5 = 0 → wp_X12_findRows a1 a2 S4 (fun S7 => (∀ S8 : St, S8 = sI S7 0 21 (gI S7 0 22) → (∃ m_33 : Nat, wl_X12_prove_33 (fun e3_14 S15 => Q (gI S15 0 21) S15) m_33 (0 : Int32) S8)))))))))
set_option maxHeartbeats 4000000 in
set_option maxRecDepth 100000 in
theorem c_X12_prove (l : Launch) (D : va_G) (kA : Nat → ClassId) (ly : Nat → Nat) (n : List Nat) (hn : ∀ c, c < 20 → c ∈ n) (A : Nat → Prop) (a1 : Int32) (a2 : Int32) : Ci l yX12_prove wsX12_prove 4 89 (Gp D (Er kA ly) ly n A kA) A [.ref (ly 0), .int a1, .int a2] (wp_X12_prove a1 a2) := by
  intro S Q
  refine Met.ofW (cc := cX12_prove) (maxL := 4) (ret := (some .int)) (by decide) rfl ?_
  intro p e s m args below meth c s₁ B hml hv
  obtain ⟨rfl, ⟨hP, hD, hK, hN⟩, hw⟩ := hv
  have hx := B.exec
  have hb := B.bytes
  have hr := B.returns
  have hts := atoms_spec (ws := wsX12_prove) B.pre
  have hown : s.vm.findClass RX12 = some m.cls := findClass_of_methodNamed B.named
  have hlocks := B.notSynchronized
  have hH : Hp D (Er kA ly) ly n A s.heap S s.heap [] := ⟨hP, hD, va_S.rf⟩
  have hiX12 : ∀ w ∈ u_ws RX12 TX12 39, w ∈ wsX12_prove := by decide +kernel
  have lk0 := hts (.fieldLink RX12 262 "SlowPanesModel" "mustMany" "I") (by decide +kernel)
  have lk1 := hts (.fieldLink RX12 191 "SlowPanesModel" "rowMany" "I") (by decide +kernel)
  have lk2 := hts (.fieldLink RX12 38 "SlowPanesModel" "rows" "[I") (by decide +kernel)
  have lk3 := hts (.fieldLink RX12 41 "SlowPanesModel" "must" "[I") (by decide +kernel)
  have hl := lv_entry ([.ref (ly 0), .int a1, .int a2]) (n := 4) (Nat.le_of_ble_eq_true rfl)
  rw [lg_entry_eq]
  generalize (lg_sl ([.ref (ly 0), .int a1, .int a2]) ++ List.replicate (4 - (lg_sl ([.ref (ly 0), .int a1, .int a2])).length) Slot.unset).toArray = ls at hl ⊢
  have hl : lv_has ls 4 [(0, .ref (ly 0)), (1, .int a1), (2, .int a2)] := hl
  rw [wp_X12_prove] at hw
  refine lv_aload_n hx hb dX12_prove_0 rfl (lv_at hl 0 rfl) ?_
  refine lv_iload_n hx hb dX12_prove_1 rfl (lv_at hl 1 rfl) ?_
  refine k_afti (va_runV (As := [.int a1]) (rest := []) ⟨hx, hb, hml, hown, hts⟩ (c_X12_isPane l D kA ly n hn A a1 S _) (cwV 1 hts gX12_prove_X12_isPane rfl rfl rfl (by decide +kernel) ⟨(Nat.le_of_ble_eq_true rfl), (Nat.le_of_ble_eq_true rfl)⟩) ⟨k_blind, (k_recv hK hH (hn _ (by decide)) Er_0 rfl), k_pre hK hN hH hw⟩ rfl rfl hl.1 rfl (lv_room (Nat.le_of_ble_eq_true rfl)) dX12_prove_2 ⟨Nat.le_refl _, Nat.le_refl _⟩) hH (fun r2 S1 H locs hw hH => ?_)
  refine lv_if_eq (tgt := 15) hx hb dX12_prove_5 (by decide) (fun hc3 => ?_) (fun hc3 => ?_)
  · replace hw := hw.1 hc3
    refine lv_iconst (v := -1) hx hb dX12_prove_15 (by decide +kernel) ?_
    exact k_iret hx hb hr hlocks hK hN hH hw dX12_prove_16
  · replace hw := hw.2 hc3
    refine lv_iload_n hx hb dX12_prove_8 rfl (lv_at hl 2 rfl) ?_
    refine k_afti (va_runS (As := [.int a2]) (rest := []) ⟨hx, hb, hml, hown, hts⟩ (c_X12_isLong l D kA ly n hn A a2 S1 _) (va_cwS 1 hts gX12_prove_X12_isLong rfl rfl rfl (by decide +kernel) ⟨(Nat.le_of_ble_eq_true rfl), (Nat.le_of_ble_eq_true rfl)⟩) ⟨k_blind, k_pre hK hN hH hw⟩ rfl rfl hl.1 rfl (lv_room (Nat.le_of_ble_eq_true rfl)) dX12_prove_9 ⟨Nat.le_refl _, Nat.le_refl _⟩) hH (fun r5 S4 H locs hw hH => ?_)
    refine lv_if_ne (tgt := 17) hx hb dX12_prove_12 (by decide) (fun hc6 => ?_) (fun hc6 => ?_)
    · replace hw := hw.2 hc6
      refine lv_aload_n hx hb dX12_prove_17 rfl (lv_at hl 0 rfl) ?_
      refine lv_iload_n hx hb dX12_prove_18 rfl (lv_at hl 1 rfl) ?_
      refine lv_iload_n hx hb dX12_prove_19 rfl (lv_at hl 2 rfl) ?_
      refine k_aftv (va_runV (As := [.int a1, .int a2]) (rest := []) ⟨hx, hb, hml, hown, hts⟩ (c_X12_findRows l D kA ly n hn A a1 a2 S4 _) (cwV 2 hts gX12_prove_X12_findRows rfl rfl rfl (by decide +kernel) ⟨(Nat.le_of_ble_eq_true rfl), (Nat.le_of_ble_eq_true rfl)⟩) ⟨k_blind, (k_recv hK hH (hn _ (by decide)) Er_0 rfl), k_pre hK hN hH hw⟩ rfl rfl hl.1 rfl (lv_room (Nat.le_of_ble_eq_true rfl)) dX12_prove_20 ⟨Nat.le_refl _, Nat.le_refl _⟩) hH (fun S7 H locs hw hH => ?_)
      refine lv_aload_n hx hb dX12_prove_23 rfl (lv_at hl 0 rfl) ?_
      refine lv_aload_n hx hb dX12_prove_24 rfl (lv_at hl 0 rfl) ?_
      refine gf_r_22 hx hb hts hiX12 hown hK hn hH lk0 dX12_prove_25 ?_
      refine pf_r_21 hx hb hts hiX12 hown hK hn hH lk1 dX12_prove_28 (fun S8 H locs eS8 hH => ?_)
      replace hw := hw S8 eS8
      refine lv_iconst (v := 0) hx hb dX12_prove_31 (by decide +kernel) ?_
      refine lv_istore_n (lv' := [(3, .int (0 : Int32)), (0, .ref (ly 0)), (1, .int a1), (2, .int a2)]) hx hb dX12_prove_32 rfl hl (by decide) rfl (fun ls hl => ?_)
      have L_33 : ∀ (K_33 : Int32 → St → Prop) (hk_33 : ∀ (v3_33 : Int32) (S_33 : St) (H : Heap) (locs : List Loc) (ls : Array Slot), K_33 v3_33 S_33 → Hp D (Er kA ly) ly n A s.heap S_33 H locs → lv_has ls 4 [(0, .ref (ly 0)), (1, .int a1), (2, .int a2), (3, .int v3_33)] → W p l e (headSpec wsX12_prove { frames := 4, cells := 0, slots := 0, locals := 89 }).room s m [.ref (ly 0), .int a1, .int a2].toArray below meth c H locs 0 0 (MQ below (va_Qi Q (Gp D (Er kA ly) ly n A kA) A) [.ref (ly 0), .int a1, .int a2].toArray s 0 0 A) (F0 m 61 ls [])) (fu_33 : Nat) (v3_33 : Int32) (S_33 : St) (H : Heap) (locs : List Loc) (ls : Array Slot), wl_X12_prove_33 K_33 fu_33 v3_33 S_33 → Hp D (Er kA ly) ly n A s.heap S_33 H locs → lv_has ls 4 [(0, .ref (ly 0)), (1, .int a1), (2, .int a2), (3, .int v3_33)] → W p l e (headSpec wsX12_prove { frames := 4, cells := 0, slots := 0, locals := 89 }).room s m [.ref (ly 0), .int a1, .int a2].toArray below meth c H locs 0 0 (MQ below (va_Qi Q (Gp D (Er kA ly) ly n A kA) A) [.ref (ly 0), .int a1, .int a2].toArray s 0 0 A) (F0 m 33 ls []) := by
        intro K_33 hk_33 fu_33
        induction fu_33 with
        | zero => intro v3_33 S_33 H locs ls hw hH hl; rw [wl_X12_prove_33] at hw; exact hw.elim
        | succ fu_33 ih_33 =>
          intro v3_33 S_33 H locs ls hw hH hl
          rw [wl_X12_prove_33] at hw
          refine lv_iload_n hx hb dX12_prove_33 rfl (lv_at hl 3 rfl) ?_
          refine lv_iconst (v := 3) hx hb dX12_prove_34 (by decide +kernel) ?_
          refine lv_aload_n hx hb dX12_prove_35 rfl (lv_at hl 0 rfl) ?_
          refine gf_r_21 hx hb hts hiX12 hown hK hn hH lk1 dX12_prove_36 ?_
          refine lv_imul hx hb dX12_prove_39 ?_
          refine lv_icmp_ge (tgt := 61) hx hb dX12_prove_40 (by decide) (fun hc9 => ?_) (fun hc9 => ?_)
          · replace hw := hw.1 hc9
            exact hk_33 v3_33 S_33 _ _ ls hw hH (lv_sub hl [0, 1, 2, 3] rfl)
          · replace hw := hw.2 hc9
            refine lv_aload_n hx hb dX12_prove_43 rfl (lv_at hl 0 rfl) ?_
            refine gf_r_19 hx hb hts hiX12 hown hK hn hH lk2 dX12_prove_44 ?_
            refine lv_iload_n hx hb dX12_prove_47 rfl (lv_at hl 3 rfl) ?_
            refine lv_aload_n hx hb dX12_prove_48 rfl (lv_at hl 0 rfl) ?_
            refine gf_r_20 hx hb hts hiX12 hown hK hn hH lk3 dX12_prove_49 ?_
            refine lv_iload_n hx hb dX12_prove_52 rfl (lv_at hl 3 rfl) ?_
            obtain ⟨hi_10, hw⟩ := hw
            refine k_ild hx hb hK hH (hn _ (by decide)) Er_10 hi_10 dX12_prove_53 ?_
            obtain ⟨hi_11, hw⟩ := hw
            refine k_ist hx hb hK hH (hn _ (by decide)) (fun _ => Er_9) hi_11 dX12_prove_54 (fun S12 H locs eS12 hH => ?_)
            replace hw := hw S12 eS12
            obtain ⟨t13, et13⟩ : ∃ y : Int32, y = v3_33 + 1 := ⟨_, rfl⟩
            replace hw := hw t13 et13
            refine lv_iinc (v := t13) (lv' := [(3, .int t13), (0, .ref (ly 0)), (1, .int a1), (2, .int a2)]) hx hb dX12_prove_55 hl (k := 3) rfl (by rw [et13]; rfl) (by decide) rfl (fun ls hl => ?_)
            refine lv_goto (tgt := 33) hx hb dX12_prove_58 (by decide) ?_
            exact ih_33 t13 S12 _ _ ls hw hH (lv_sub hl [1, 2, 3, 0] rfl)
      obtain ⟨m_33, hw⟩ := hw
      refine L_33 _ (fun e3_14 S15 H locs ls hw hH hl => ?_) m_33 (0 : Int32) S8 _ _ ls hw hH (lv_sub hl [1, 2, 3, 0] rfl)
      refine lv_aload_n hx hb dX12_prove_61 rfl (lv_at hl 0 rfl) ?_
      refine gf_r_21 hx hb hts hiX12 hown hK hn hH lk1 dX12_prove_62 ?_
      exact k_iret hx hb hr hlocks hK hN hH hw dX12_prove_65
    · replace hw := hw.1 hc6
      refine lv_iconst (v := -1) hx hb dX12_prove_15 (by decide +kernel) ?_
      exact k_iret hx hb hr hlocks hK hN hH hw dX12_prove_16
def wp_X12_isRow (a1 : Int32) (a2 : Int32) (S : St) (Q : Int32 → St → Prop) : Prop := wp_X12_in a1 (0 : Int32) ((gI S 0 21) - (1 : Int32)) S (fun r2 S1 => ((r2 = 0 → Q (0 : Int32) S1) ∧ (¬ r2 = 0 → wp_X12_in a2 (0 : Int32) (2 : Int32) S1 (fun r5 S4 => ((r5 = 0 → Q (0 : Int32) S4) ∧ (¬ r5 = 0 → Q (1 : Int32) S4))))))
set_option maxHeartbeats 4000000 in
set_option maxRecDepth 100000 in
theorem c_X12_isRow (l : Launch) (D : va_G) (kA : Nat → ClassId) (ly : Nat → Nat) (n : List Nat) (hn : ∀ c, c < 20 → c ∈ n) (A : Nat → Prop) (a1 : Int32) (a2 : Int32) : Ci l yX12_isRow wsX12_isRow 1 22 (Gp D (Er kA ly) ly n A kA) A [.ref (ly 0), .int a1, .int a2] (wp_X12_isRow a1 a2) := by
  intro S Q
  refine Met.ofW (cc := cX12_isRow) (maxL := 3) (ret := (some .boolean)) (by decide) rfl ?_
  intro p e s m args below meth c s₁ B hml hv
  obtain ⟨rfl, ⟨hP, hD, hK, hN⟩, hw⟩ := hv
  have hx := B.exec
  have hb := B.bytes
  have hr := B.returns
  have hts := atoms_spec (ws := wsX12_isRow) B.pre
  have hown : s.vm.findClass RX12 = some m.cls := findClass_of_methodNamed B.named
  have hlocks := B.notSynchronized
  have hH : Hp D (Er kA ly) ly n A s.heap S s.heap [] := ⟨hP, hD, va_S.rf⟩
  have hiX12 : ∀ w ∈ u_ws RX12 TX12 39, w ∈ wsX12_isRow := by decide +kernel
  have lk0 := hts (.fieldLink RX12 191 "SlowPanesModel" "rowMany" "I") (by decide +kernel)
  have hl := lv_entry ([.ref (ly 0), .int a1, .int a2]) (n := 3) (Nat.le_of_ble_eq_true rfl)
  rw [lg_entry_eq]
  generalize (lg_sl ([.ref (ly 0), .int a1, .int a2]) ++ List.replicate (3 - (lg_sl ([.ref (ly 0), .int a1, .int a2])).length) Slot.unset).toArray = ls at hl ⊢
  have hl : lv_has ls 3 [(0, .ref (ly 0)), (1, .int a1), (2, .int a2)] := hl
  rw [wp_X12_isRow] at hw
  refine lv_iload_n hx hb dX12_isRow_0 rfl (lv_at hl 1 rfl) ?_
  refine lv_iconst (v := 0) hx hb dX12_isRow_1 (by decide +kernel) ?_
  refine lv_aload_n hx hb dX12_isRow_2 rfl (lv_at hl 0 rfl) ?_
  refine gf_r_21 hx hb hts hiX12 hown hK hn hH lk0 dX12_isRow_3 ?_
  refine lv_iconst (v := 1) hx hb dX12_isRow_6 (by decide +kernel) ?_
  refine lv_isub hx hb dX12_isRow_7 ?_
  refine k_afti (va_runS (As := [.int a1, .int (0 : Int32), .int ((gI S 0 21) - (1 : Int32))]) (rest := []) ⟨hx, hb, hml, hown, hts⟩ (c_X12_in l D kA ly n hn A a1 (0 : Int32) ((gI S 0 21) - (1 : Int32)) S _) (va_cwS 3 hts gX12_isRow_X12_in rfl rfl rfl (by decide +kernel) ⟨(Nat.le_of_ble_eq_true rfl), (Nat.le_of_ble_eq_true rfl)⟩) ⟨k_blind, k_pre hK hN hH hw⟩ rfl rfl hl.1 rfl (lv_room (Nat.le_of_ble_eq_true rfl)) dX12_isRow_8 ⟨Nat.le_refl _, Nat.le_refl _⟩) hH (fun r2 S1 H locs hw hH => ?_)
  refine lv_if_eq (tgt := 27) hx hb dX12_isRow_11 (by decide) (fun hc3 => ?_) (fun hc3 => ?_)
  · replace hw := hw.1 hc3
    refine lv_iconst (v := 0) hx hb dX12_isRow_27 (by decide +kernel) ?_
    exact k_zret hx hb hr hlocks hK hN hH rfl hw dX12_isRow_28
  · replace hw := hw.2 hc3
    refine lv_iload_n hx hb dX12_isRow_14 rfl (lv_at hl 2 rfl) ?_
    refine lv_iconst (v := 0) hx hb dX12_isRow_15 (by decide +kernel) ?_
    refine lv_iconst (v := 2) hx hb dX12_isRow_16 (by decide +kernel) ?_
    refine k_afti (va_runS (As := [.int a2, .int (0 : Int32), .int (2 : Int32)]) (rest := []) ⟨hx, hb, hml, hown, hts⟩ (c_X12_in l D kA ly n hn A a2 (0 : Int32) (2 : Int32) S1 _) (va_cwS 3 hts gX12_isRow_X12_in rfl rfl rfl (by decide +kernel) ⟨(Nat.le_of_ble_eq_true rfl), (Nat.le_of_ble_eq_true rfl)⟩) ⟨k_blind, k_pre hK hN hH hw⟩ rfl rfl hl.1 rfl (lv_room (Nat.le_of_ble_eq_true rfl)) dX12_isRow_17 ⟨Nat.le_refl _, Nat.le_refl _⟩) hH (fun r5 S4 H locs hw hH => ?_)
    refine lv_if_eq (tgt := 27) hx hb dX12_isRow_20 (by decide) (fun hc6 => ?_) (fun hc6 => ?_)
    · replace hw := hw.1 hc6
      refine lv_iconst (v := 0) hx hb dX12_isRow_27 (by decide +kernel) ?_
      exact k_zret hx hb hr hlocks hK hN hH rfl hw dX12_isRow_28
    · replace hw := hw.2 hc6
      refine lv_iconst (v := 1) hx hb dX12_isRow_23 (by decide +kernel) ?_
      refine lv_goto (tgt := 28) hx hb dX12_isRow_24 (by decide) ?_
      exact k_zret hx hb hr hlocks hK hN hH rfl hw dX12_isRow_28
def wp_X12_row (a1 : Int32) (a2 : Int32) (S : St) (Q : Int32 → St → Prop) : Prop := wp_X12_isRow a1 a2 S (fun r2 S1 => ((r2 = 0 → Q (-99 : Int32) S1) ∧ (¬ r2 = 0 → (vp_in (((3 : Int32) * a1) + a2) 60 ∧ Q (gA S1 9 (((3 : Int32) * a1) + a2).toNatClampNeg) S1))))
set_option maxHeartbeats 4000000 in
set_option maxRecDepth 100000 in
theorem c_X12_row (l : Launch) (D : va_G) (kA : Nat → ClassId) (ly : Nat → Nat) (n : List Nat) (hn : ∀ c, c < 20 → c ∈ n) (A : Nat → Prop) (a1 : Int32) (a2 : Int32) : Ci l yX12_row wsX12_row 2 44 (Gp D (Er kA ly) ly n A kA) A [.ref (ly 0), .int a1, .int a2] (wp_X12_row a1 a2) := by
  intro S Q
  refine Met.ofW (cc := cX12_row) (maxL := 3) (ret := (some .int)) (by decide) rfl ?_
  intro p e s m args below meth c s₁ B hml hv
  obtain ⟨rfl, ⟨hP, hD, hK, hN⟩, hw⟩ := hv
  have hx := B.exec
  have hb := B.bytes
  have hr := B.returns
  have hts := atoms_spec (ws := wsX12_row) B.pre
  have hown : s.vm.findClass RX12 = some m.cls := findClass_of_methodNamed B.named
  have hlocks := B.notSynchronized
  have hH : Hp D (Er kA ly) ly n A s.heap S s.heap [] := ⟨hP, hD, va_S.rf⟩
  have hiX12 : ∀ w ∈ u_ws RX12 TX12 39, w ∈ wsX12_row := by decide +kernel
  have lk0 := hts (.fieldLink RX12 38 "SlowPanesModel" "rows" "[I") (by decide +kernel)
  have hl := lv_entry ([.ref (ly 0), .int a1, .int a2]) (n := 3) (Nat.le_of_ble_eq_true rfl)
  rw [lg_entry_eq]
  generalize (lg_sl ([.ref (ly 0), .int a1, .int a2]) ++ List.replicate (3 - (lg_sl ([.ref (ly 0), .int a1, .int a2])).length) Slot.unset).toArray = ls at hl ⊢
  have hl : lv_has ls 3 [(0, .ref (ly 0)), (1, .int a1), (2, .int a2)] := hl
  rw [wp_X12_row] at hw
  refine lv_aload_n hx hb dX12_row_0 rfl (lv_at hl 0 rfl) ?_
  refine lv_iload_n hx hb dX12_row_1 rfl (lv_at hl 1 rfl) ?_
  refine lv_iload_n hx hb dX12_row_2 rfl (lv_at hl 2 rfl) ?_
  refine k_afti (va_runV (As := [.int a1, .int a2]) (rest := []) ⟨hx, hb, hml, hown, hts⟩ (c_X12_isRow l D kA ly n hn A a1 a2 S _) (cwV 2 hts gX12_row_X12_isRow rfl rfl rfl (by decide +kernel) ⟨(Nat.le_of_ble_eq_true rfl), (Nat.le_of_ble_eq_true rfl)⟩) ⟨k_blind, (k_recv hK hH (hn _ (by decide)) Er_0 rfl), k_pre hK hN hH hw⟩ rfl rfl hl.1 rfl (lv_room (Nat.le_of_ble_eq_true rfl)) dX12_row_3 ⟨Nat.le_refl _, Nat.le_refl _⟩) hH (fun r2 S1 H locs hw hH => ?_)
  refine lv_if_eq (tgt := 22) hx hb dX12_row_6 (by decide) (fun hc3 => ?_) (fun hc3 => ?_)
  · replace hw := hw.1 hc3
    refine lv_bipush (v := -99) hx hb dX12_row_22 (by decide +kernel) ?_
    exact k_iret hx hb hr hlocks hK hN hH hw dX12_row_24
  · replace hw := hw.2 hc3
    refine lv_aload_n hx hb dX12_row_9 rfl (lv_at hl 0 rfl) ?_
    refine gf_r_19 hx hb hts hiX12 hown hK hn hH lk0 dX12_row_10 ?_
    refine lv_iconst (v := 3) hx hb dX12_row_13 (by decide +kernel) ?_
    refine lv_iload_n hx hb dX12_row_14 rfl (lv_at hl 1 rfl) ?_
    refine lv_imul hx hb dX12_row_15 ?_
    refine lv_iload_n hx hb dX12_row_16 rfl (lv_at hl 2 rfl) ?_
    refine lv_iadd hx hb dX12_row_17 ?_
    obtain ⟨hi_4, hw⟩ := hw
    refine k_ild hx hb hK hH (hn _ (by decide)) Er_9 hi_4 dX12_row_18 ?_
    refine lv_goto (tgt := 24) hx hb dX12_row_19 (by decide) ?_
    exact k_iret hx hb hr hlocks hK hN hH hw dX12_row_24
def wp_X12_alterRow (a1 : Int32) (a2 : Int32) (a3 : Int32) (S : St) (Q : Int32 → St → Prop) : Prop := wp_X12_isRow a1 a2 S (fun r2 S1 => ((r2 = 0 → Q (-99 : Int32) S1) ∧ (¬ r2 = 0 → (vp_in (((3 : Int32) * a1) + a2) 60 ∧ (∀ t5 : Int32, t5 = (gA S1 9 (((3 : Int32) * a1) + a2).toNatClampNeg) → (vp_in (((3 : Int32) * a1) + a2) 60 ∧ ∀ S7 : St, S7 = sA S1 9 (((3 : Int32) * a1) + a2).toNatClampNeg a3 → Q t5 S7))))))
set_option maxHeartbeats 4000000 in
set_option maxRecDepth 100000 in
theorem c_X12_alterRow (l : Launch) (D : va_G) (kA : Nat → ClassId) (ly : Nat → Nat) (n : List Nat) (hn : ∀ c, c < 20 → c ∈ n) (A : Nat → Prop) (a1 : Int32) (a2 : Int32) (a3 : Int32) : Ci l yX12_alterRow wsX12_alterRow 2 44 (Gp D (Er kA ly) ly n A kA) A [.ref (ly 0), .int a1, .int a2, .int a3] (wp_X12_alterRow a1 a2 a3) := by
  intro S Q
  refine Met.ofW (cc := cX12_alterRow) (maxL := 5) (ret := (some .int)) (by decide) rfl ?_
  intro p e s m args below meth c s₁ B hml hv
  obtain ⟨rfl, ⟨hP, hD, hK, hN⟩, hw⟩ := hv
  have hx := B.exec
  have hb := B.bytes
  have hr := B.returns
  have hts := atoms_spec (ws := wsX12_alterRow) B.pre
  have hown : s.vm.findClass RX12 = some m.cls := findClass_of_methodNamed B.named
  have hlocks := B.notSynchronized
  have hH : Hp D (Er kA ly) ly n A s.heap S s.heap [] := ⟨hP, hD, va_S.rf⟩
  have hiX12 : ∀ w ∈ u_ws RX12 TX12 39, w ∈ wsX12_alterRow := by decide +kernel
  have lk0 := hts (.fieldLink RX12 38 "SlowPanesModel" "rows" "[I") (by decide +kernel)
  have hl := lv_entry ([.ref (ly 0), .int a1, .int a2, .int a3]) (n := 5) (Nat.le_of_ble_eq_true rfl)
  rw [lg_entry_eq]
  generalize (lg_sl ([.ref (ly 0), .int a1, .int a2, .int a3]) ++ List.replicate (5 - (lg_sl ([.ref (ly 0), .int a1, .int a2, .int a3])).length) Slot.unset).toArray = ls at hl ⊢
  have hl : lv_has ls 5 [(0, .ref (ly 0)), (1, .int a1), (2, .int a2), (3, .int a3)] := hl
  rw [wp_X12_alterRow] at hw
  refine lv_aload_n hx hb dX12_alterRow_0 rfl (lv_at hl 0 rfl) ?_
  refine lv_iload_n hx hb dX12_alterRow_1 rfl (lv_at hl 1 rfl) ?_
  refine lv_iload_n hx hb dX12_alterRow_2 rfl (lv_at hl 2 rfl) ?_
  refine k_afti (va_runV (As := [.int a1, .int a2]) (rest := []) ⟨hx, hb, hml, hown, hts⟩ (c_X12_isRow l D kA ly n hn A a1 a2 S _) (cwV 2 hts gX12_alterRow_X12_isRow rfl rfl rfl (by decide +kernel) ⟨(Nat.le_of_ble_eq_true rfl), (Nat.le_of_ble_eq_true rfl)⟩) ⟨k_blind, (k_recv hK hH (hn _ (by decide)) Er_0 rfl), k_pre hK hN hH hw⟩ rfl rfl hl.1 rfl (lv_room (Nat.le_of_ble_eq_true rfl)) dX12_alterRow_3 ⟨Nat.le_refl _, Nat.le_refl _⟩) hH (fun r2 S1 H locs hw hH => ?_)
  refine lv_if_ne (tgt := 12) hx hb dX12_alterRow_6 (by decide) (fun hc3 => ?_) (fun hc3 => ?_)
  · replace hw := hw.2 hc3
    refine lv_aload_n hx hb dX12_alterRow_12 rfl (lv_at hl 0 rfl) ?_
    refine gf_r_19 hx hb hts hiX12 hown hK hn hH lk0 dX12_alterRow_13 ?_
    refine lv_iconst (v := 3) hx hb dX12_alterRow_16 (by decide +kernel) ?_
    refine lv_iload_n hx hb dX12_alterRow_17 rfl (lv_at hl 1 rfl) ?_
    refine lv_imul hx hb dX12_alterRow_18 ?_
    refine lv_iload_n hx hb dX12_alterRow_19 rfl (lv_at hl 2 rfl) ?_
    refine lv_iadd hx hb dX12_alterRow_20 ?_
    obtain ⟨hi_4, hw⟩ := hw
    refine k_ild hx hb hK hH (hn _ (by decide)) Er_9 hi_4 dX12_alterRow_21 ?_
    refine lv_topi (fun t5 et5 => ?_)
    replace hw := hw t5 et5
    refine lv_istore (lv' := [(4, .int t5), (0, .ref (ly 0)), (1, .int a1), (2, .int a2), (3, .int a3)]) hx hb dX12_alterRow_22 hl (by decide) rfl (fun ls hl => ?_)
    refine lv_aload_n hx hb dX12_alterRow_24 rfl (lv_at hl 1 rfl) ?_
    refine gf_r_19 hx hb hts hiX12 hown hK hn hH lk0 dX12_alterRow_25 ?_
    refine lv_iconst (v := 3) hx hb dX12_alterRow_28 (by decide +kernel) ?_
    refine lv_iload_n hx hb dX12_alterRow_29 rfl (lv_at hl 2 rfl) ?_
    refine lv_imul hx hb dX12_alterRow_30 ?_
    refine lv_iload_n hx hb dX12_alterRow_31 rfl (lv_at hl 3 rfl) ?_
    refine lv_iadd hx hb dX12_alterRow_32 ?_
    refine lv_iload_n hx hb dX12_alterRow_33 rfl (lv_at hl 4 rfl) ?_
    obtain ⟨hi_6, hw⟩ := hw
    refine k_ist hx hb hK hH (hn _ (by decide)) (fun _ => Er_9) hi_6 dX12_alterRow_34 (fun S7 H locs eS7 hH => ?_)
    replace hw := hw S7 eS7
    refine lv_iload hx hb dX12_alterRow_35 (lv_at hl 0 rfl) ?_
    exact k_iret hx hb hr hlocks hK hN hH hw dX12_alterRow_37
  · replace hw := hw.1 hc3
    refine lv_bipush (v := -99) hx hb dX12_alterRow_9 (by decide +kernel) ?_
    exact k_iret hx hb hr hlocks hK hN hH hw dX12_alterRow_11
def wl_X12_judge_46 (v2_21 : Int32) (K_46 : Int32 → Int32 → St → Prop) : Nat → Int32 → Int32 → St → Prop
  | 0, _, _, _ => False
  | fu_46 + 1, v3_46, v4_46, S_46 => (((3 : Int32) ≤ v4_46 → K_46 v3_46 v4_46 S_46) ∧ (¬ (3 : Int32) ≤ v4_46 → ((v3_46 = 0 → K_46 v3_46 v4_46 S_46) ∧ (¬ v3_46 = 0 → (vp_in (((3 : Int32) * v2_21) + v4_46) 60 ∧ (vp_in (((3 : Int32) * v2_21) + v4_46) 60 ∧ (((gA S_46 9 (((3 : Int32) * v2_21) + v4_46).toNatClampNeg) = (gA S_46 10 (((3 : Int32) * v2_21) + v4_46).toNatClampNeg) → (∀ t12 : Int32, t12 = v4_46 + 1 → wl_X12_judge_46 v2_21 K_46 fu_46 (1 : Int32) t12 S_46)) ∧ (¬ (gA S_46 9 (((3 : Int32) * v2_21) + v4_46).toNatClampNeg) = (gA S_46 10 (((3 : Int32) * v2_21) + v4_46).toNatClampNeg) → (∀ t11 : Int32, t11 = v4_46 + 1 → wl_X12_judge_46 v2_21 K_46 fu_46 (0 : Int32) t11 S_46)))))))))
def wj_X12_judge_42 (v2_21 : Int32) (Q : Int32 → St → Prop) (B_21 : Int32 → St → Prop) (q0_42 : Int32) (S_42 : St) : Prop := (∃ m_46 : Nat, wl_X12_judge_46 v2_21 (fun e3_13 e4_14 S15 => ((e3_13 = 0 → Q (v2_21 + (1 : Int32)) S15) ∧ (¬ e3_13 = 0 → (∀ t17 : Int32, t17 = v2_21 + 1 → B_21 t17 S15)))) m_46 q0_42 (0 : Int32) S_42)
def wl_X12_judge_21  (Q : Int32 → St → Prop) (K_21 : Int32 → St → Prop) : Nat → Int32 → St → Prop
  | 0, _, _ => False
  | fu_21 + 1, v2_21, S_21 => (((gI S_21 0 21) ≤ v2_21 → K_21 v2_21 S_21) ∧ (¬ (gI S_21 0 21) ≤ v2_21 → (((gI S_21 0 22) ≤ v2_21 → wj_X12_judge_42 v2_21 Q (fun b0 b => wl_X12_judge_21 Q K_21 fu_21 b0 b) (0 : Int32) S_21) ∧ (¬ (gI S_21 0 22) ≤ v2_21 → wj_X12_judge_42 v2_21 Q (fun b0 b => wl_X12_judge_21 Q K_21 fu_21 b0 b) (1 : Int32) S_21))))
def wp_X12_judge (a1 : Int32) (S : St) (Q : Int32 → St → Prop) : Prop := wp_X12_isPane a1 S (fun r2 S1 => ((r2 = 0 → Q (-1 : Int32) S1) ∧ (¬ r2 = 0 → wp_X12_findRows a1 (gI S1 0 21) S1 (fun S4 => (∃ m_21 : Nat, wl_X12_judge_21 Q (fun e2_19 S20 => Q (0 : Int32) S20) m_21 (0 : Int32) S4)))))
set_option maxHeartbeats 4000000 in
set_option maxRecDepth 100000 in
theorem c_X12_judge (l : Launch) (D : va_G) (kA : Nat → ClassId) (ly : Nat → Nat) (n : List Nat) (hn : ∀ c, c < 20 → c ∈ n) (A : Nat → Prop) (a1 : Int32) : Ci l yX12_judge wsX12_judge 4 89 (Gp D (Er kA ly) ly n A kA) A [.ref (ly 0), .int a1] (wp_X12_judge a1) := by
  intro S Q
  refine Met.ofW (cc := cX12_judge) (maxL := 5) (ret := (some .int)) (by decide) rfl ?_
  intro p e s m args below meth c s₁ B hml hv
  obtain ⟨rfl, ⟨hP, hD, hK, hN⟩, hw⟩ := hv
  have hx := B.exec
  have hb := B.bytes
  have hr := B.returns
  have hts := atoms_spec (ws := wsX12_judge) B.pre
  have hown : s.vm.findClass RX12 = some m.cls := findClass_of_methodNamed B.named
  have hlocks := B.notSynchronized
  have hH : Hp D (Er kA ly) ly n A s.heap S s.heap [] := ⟨hP, hD, va_S.rf⟩
  have hiX12 : ∀ w ∈ u_ws RX12 TX12 39, w ∈ wsX12_judge := by decide +kernel
  have lk0 := hts (.fieldLink RX12 191 "SlowPanesModel" "rowMany" "I") (by decide +kernel)
  have lk1 := hts (.fieldLink RX12 262 "SlowPanesModel" "mustMany" "I") (by decide +kernel)
  have lk2 := hts (.fieldLink RX12 38 "SlowPanesModel" "rows" "[I") (by decide +kernel)
  have lk3 := hts (.fieldLink RX12 41 "SlowPanesModel" "must" "[I") (by decide +kernel)
  have hl := lv_entry ([.ref (ly 0), .int a1]) (n := 5) (Nat.le_of_ble_eq_true rfl)
  rw [lg_entry_eq]
  generalize (lg_sl ([.ref (ly 0), .int a1]) ++ List.replicate (5 - (lg_sl ([.ref (ly 0), .int a1])).length) Slot.unset).toArray = ls at hl ⊢
  have hl : lv_has ls 5 [(0, .ref (ly 0)), (1, .int a1)] := hl
  rw [wp_X12_judge] at hw
  refine lv_aload_n hx hb dX12_judge_0 rfl (lv_at hl 0 rfl) ?_
  refine lv_iload_n hx hb dX12_judge_1 rfl (lv_at hl 1 rfl) ?_
  refine k_afti (va_runV (As := [.int a1]) (rest := []) ⟨hx, hb, hml, hown, hts⟩ (c_X12_isPane l D kA ly n hn A a1 S _) (cwV 1 hts gX12_judge_X12_isPane rfl rfl rfl (by decide +kernel) ⟨(Nat.le_of_ble_eq_true rfl), (Nat.le_of_ble_eq_true rfl)⟩) ⟨k_blind, (k_recv hK hH (hn _ (by decide)) Er_0 rfl), k_pre hK hN hH hw⟩ rfl rfl hl.1 rfl (lv_room (Nat.le_of_ble_eq_true rfl)) dX12_judge_2 ⟨Nat.le_refl _, Nat.le_refl _⟩) hH (fun r2 S1 H locs hw hH => ?_)
  refine lv_if_ne (tgt := 10) hx hb dX12_judge_5 (by decide) (fun hc3 => ?_) (fun hc3 => ?_)
  · replace hw := hw.2 hc3
    refine lv_aload_n hx hb dX12_judge_10 rfl (lv_at hl 0 rfl) ?_
    refine lv_iload_n hx hb dX12_judge_11 rfl (lv_at hl 1 rfl) ?_
    refine lv_aload_n hx hb dX12_judge_12 rfl (lv_at hl 0 rfl) ?_
    refine gf_r_21 hx hb hts hiX12 hown hK hn hH lk0 dX12_judge_13 ?_
    refine k_aftv (va_runV (As := [.int a1, .int (gI S1 0 21)]) (rest := []) ⟨hx, hb, hml, hown, hts⟩ (c_X12_findRows l D kA ly n hn A a1 (gI S1 0 21) S1 _) (cwV 2 hts gX12_judge_X12_findRows rfl rfl rfl (by decide +kernel) ⟨(Nat.le_of_ble_eq_true rfl), (Nat.le_of_ble_eq_true rfl)⟩) ⟨k_blind, (k_recv hK hH (hn _ (by decide)) Er_0 rfl), k_pre hK hN hH hw⟩ rfl rfl hl.1 rfl (lv_room (Nat.le_of_ble_eq_true rfl)) dX12_judge_16 ⟨Nat.le_refl _, Nat.le_refl _⟩) hH (fun S4 H locs hw hH => ?_)
    refine lv_iconst (v := 0) hx hb dX12_judge_19 (by decide +kernel) ?_
    refine lv_istore_n (lv' := [(2, .int (0 : Int32)), (0, .ref (ly 0)), (1, .int a1)]) hx hb dX12_judge_20 rfl hl (by decide) rfl (fun ls hl => ?_)
    have L_21 : ∀ (K_21 : Int32 → St → Prop) (hk_21 : ∀ (v2_21 : Int32) (S_21 : St) (H : Heap) (locs : List Loc) (ls : Array Slot), K_21 v2_21 S_21 → Hp D (Er kA ly) ly n A s.heap S_21 H locs → lv_has ls 5 [(0, .ref (ly 0)), (1, .int a1), (2, .int v2_21)] → W p l e (headSpec wsX12_judge { frames := 4, cells := 0, slots := 0, locals := 89 }).room s m [.ref (ly 0), .int a1].toArray below meth c H locs 0 0 (MQ below (va_Qi Q (Gp D (Er kA ly) ly n A kA) A) [.ref (ly 0), .int a1].toArray s 0 0 A) (F0 m 107 ls [])) (fu_21 : Nat) (v2_21 : Int32) (S_21 : St) (H : Heap) (locs : List Loc) (ls : Array Slot), wl_X12_judge_21 Q K_21 fu_21 v2_21 S_21 → Hp D (Er kA ly) ly n A s.heap S_21 H locs → lv_has ls 5 [(0, .ref (ly 0)), (1, .int a1), (2, .int v2_21)] → W p l e (headSpec wsX12_judge { frames := 4, cells := 0, slots := 0, locals := 89 }).room s m [.ref (ly 0), .int a1].toArray below meth c H locs 0 0 (MQ below (va_Qi Q (Gp D (Er kA ly) ly n A kA) A) [.ref (ly 0), .int a1].toArray s 0 0 A) (F0 m 21 ls []) := by
      intro K_21 hk_21 fu_21
      induction fu_21 with
      | zero => intro v2_21 S_21 H locs ls hw hH hl; rw [wl_X12_judge_21] at hw; exact hw.elim
      | succ fu_21 ih_21 =>
        intro v2_21 S_21 H locs ls hw hH hl
        rw [wl_X12_judge_21] at hw
        refine lv_iload_n hx hb dX12_judge_21 rfl (lv_at hl 2 rfl) ?_
        refine lv_aload_n hx hb dX12_judge_22 rfl (lv_at hl 0 rfl) ?_
        refine gf_r_21 hx hb hts hiX12 hown hK hn hH lk0 dX12_judge_23 ?_
        refine lv_icmp_ge (tgt := 107) hx hb dX12_judge_26 (by decide) (fun hc5 => ?_) (fun hc5 => ?_)
        · replace hw := hw.1 hc5
          exact hk_21 v2_21 S_21 _ _ ls hw hH (lv_sub hl [0, 1, 2] rfl)
        · replace hw := hw.2 hc5
          refine lv_iload_n hx hb dX12_judge_29 rfl (lv_at hl 2 rfl) ?_
          refine lv_aload_n hx hb dX12_judge_30 rfl (lv_at hl 0 rfl) ?_
          refine gf_r_22 hx hb hts hiX12 hown hK hn hH lk1 dX12_judge_31 ?_
          have J_42 : ∀ (q0_42 : Int32) (S_42 : St) (H : Heap) (locs : List Loc) (ls : Array Slot), wj_X12_judge_42 v2_21 Q (fun b0 b => wl_X12_judge_21 Q K_21 fu_21 b0 b) q0_42 S_42 → Hp D (Er kA ly) ly n A s.heap S_42 H locs → lv_has ls 5 [(0, .ref (ly 0)), (1, .int a1), (2, .int v2_21)] → W p l e (headSpec wsX12_judge { frames := 4, cells := 0, slots := 0, locals := 89 }).room s m [.ref (ly 0), .int a1].toArray below meth c H locs 0 0 (MQ below (va_Qi Q (Gp D (Er kA ly) ly n A kA) A) [.ref (ly 0), .int a1].toArray s 0 0 A) (F0 m 42 ls [.int q0_42]) := by
            intro q0_42 S_42 H locs ls hw hH hl
            rw [wj_X12_judge_42] at hw
            refine lv_istore_n (lv' := [(3, .int q0_42), (0, .ref (ly 0)), (1, .int a1), (2, .int v2_21)]) hx hb dX12_judge_42 rfl hl (by decide) rfl (fun ls hl => ?_)
            refine lv_iconst (v := 0) hx hb dX12_judge_43 (by decide +kernel) ?_
            refine lv_istore (lv' := [(4, .int (0 : Int32)), (3, .int q0_42), (0, .ref (ly 0)), (1, .int a1), (2, .int v2_21)]) hx hb dX12_judge_44 hl (by decide) rfl (fun ls hl => ?_)
            have L_46 : ∀ (K_46 : Int32 → Int32 → St → Prop) (hk_46 : ∀ (v3_46 : Int32) (v4_46 : Int32) (S_46 : St) (H : Heap) (locs : List Loc) (ls : Array Slot), K_46 v3_46 v4_46 S_46 → Hp D (Er kA ly) ly n A s.heap S_46 H locs → lv_has ls 5 [(0, .ref (ly 0)), (1, .int a1), (2, .int v2_21), (3, .int v3_46), (4, .int v4_46)] → W p l e (headSpec wsX12_judge { frames := 4, cells := 0, slots := 0, locals := 89 }).room s m [.ref (ly 0), .int a1].toArray below meth c H locs 0 0 (MQ below (va_Qi Q (Gp D (Er kA ly) ly n A kA) A) [.ref (ly 0), .int a1].toArray s 0 0 A) (F0 m 93 ls [])) (fu_46 : Nat) (v3_46 : Int32) (v4_46 : Int32) (S_46 : St) (H : Heap) (locs : List Loc) (ls : Array Slot), wl_X12_judge_46 v2_21 K_46 fu_46 v3_46 v4_46 S_46 → Hp D (Er kA ly) ly n A s.heap S_46 H locs → lv_has ls 5 [(0, .ref (ly 0)), (1, .int a1), (2, .int v2_21), (3, .int v3_46), (4, .int v4_46)] → W p l e (headSpec wsX12_judge { frames := 4, cells := 0, slots := 0, locals := 89 }).room s m [.ref (ly 0), .int a1].toArray below meth c H locs 0 0 (MQ below (va_Qi Q (Gp D (Er kA ly) ly n A kA) A) [.ref (ly 0), .int a1].toArray s 0 0 A) (F0 m 46 ls []) := by
              intro K_46 hk_46 fu_46
              induction fu_46 with
              | zero => intro v3_46 v4_46 S_46 H locs ls hw hH hl; rw [wl_X12_judge_46] at hw; exact hw.elim
              | succ fu_46 ih_46 =>
                intro v3_46 v4_46 S_46 H locs ls hw hH hl
                rw [wl_X12_judge_46] at hw
                refine lv_iload hx hb dX12_judge_46 (lv_at hl 4 rfl) ?_
                refine lv_iconst (v := 3) hx hb dX12_judge_48 (by decide +kernel) ?_
                refine lv_icmp_ge (tgt := 93) hx hb dX12_judge_49 (by decide) (fun hc6 => ?_) (fun hc6 => ?_)
                · replace hw := hw.1 hc6
                  exact hk_46 v3_46 v4_46 S_46 _ _ ls hw hH (lv_sub hl [0, 1, 2, 3, 4] rfl)
                · replace hw := hw.2 hc6
                  refine lv_iload_n hx hb dX12_judge_52 rfl (lv_at hl 3 rfl) ?_
                  refine lv_if_eq (tgt := 93) hx hb dX12_judge_53 (by decide) (fun hc7 => ?_) (fun hc7 => ?_)
                  · replace hw := hw.1 hc7
                    exact hk_46 v3_46 v4_46 S_46 _ _ ls hw hH (lv_sub hl [0, 1, 2, 3, 4] rfl)
                  · replace hw := hw.2 hc7
                    refine lv_aload_n hx hb dX12_judge_56 rfl (lv_at hl 0 rfl) ?_
                    refine gf_r_19 hx hb hts hiX12 hown hK hn hH lk2 dX12_judge_57 ?_
                    refine lv_iconst (v := 3) hx hb dX12_judge_60 (by decide +kernel) ?_
                    refine lv_iload_n hx hb dX12_judge_61 rfl (lv_at hl 2 rfl) ?_
                    refine lv_imul hx hb dX12_judge_62 ?_
                    refine lv_iload hx hb dX12_judge_63 (lv_at hl 4 rfl) ?_
                    refine lv_iadd hx hb dX12_judge_65 ?_
                    obtain ⟨hi_8, hw⟩ := hw
                    refine k_ild hx hb hK hH (hn _ (by decide)) Er_9 hi_8 dX12_judge_66 ?_
                    refine lv_aload_n hx hb dX12_judge_67 rfl (lv_at hl 0 rfl) ?_
                    refine gf_r_20 hx hb hts hiX12 hown hK hn hH lk3 dX12_judge_68 ?_
                    refine lv_iconst (v := 3) hx hb dX12_judge_71 (by decide +kernel) ?_
                    refine lv_iload_n hx hb dX12_judge_72 rfl (lv_at hl 2 rfl) ?_
                    refine lv_imul hx hb dX12_judge_73 ?_
                    refine lv_iload hx hb dX12_judge_74 (lv_at hl 4 rfl) ?_
                    refine lv_iadd hx hb dX12_judge_76 ?_
                    obtain ⟨hi_9, hw⟩ := hw
                    refine k_ild hx hb hK hH (hn _ (by decide)) Er_10 hi_9 dX12_judge_77 ?_
                    refine lv_icmp_ne (tgt := 85) hx hb dX12_judge_78 (by decide) (fun hc10 => ?_) (fun hc10 => ?_)
                    · replace hw := hw.2 hc10
                      refine lv_iconst (v := 0) hx hb dX12_judge_85 (by decide +kernel) ?_
                      refine lv_istore_n (lv' := [(3, .int (0 : Int32)), (0, .ref (ly 0)), (1, .int a1), (2, .int v2_21), (4, .int v4_46)]) hx hb dX12_judge_86 rfl hl (by decide) rfl (fun ls hl => ?_)
                      obtain ⟨t11, et11⟩ : ∃ y : Int32, y = v4_46 + 1 := ⟨_, rfl⟩
                      replace hw := hw t11 et11
                      refine lv_iinc (v := t11) (lv' := [(4, .int t11), (3, .int (0 : Int32)), (0, .ref (ly 0)), (1, .int a1), (2, .int v2_21)]) hx hb dX12_judge_87 hl (k := 4) rfl (by rw [et11]; rfl) (by decide) rfl (fun ls hl => ?_)
                      refine lv_goto (tgt := 46) hx hb dX12_judge_90 (by decide) ?_
                      exact ih_46 (0 : Int32) t11 S_46 _ _ ls hw hH (lv_sub hl [2, 3, 4, 1, 0] rfl)
                    · replace hw := hw.1 hc10
                      refine lv_iconst (v := 1) hx hb dX12_judge_81 (by decide +kernel) ?_
                      refine lv_goto (tgt := 86) hx hb dX12_judge_82 (by decide) ?_
                      refine lv_istore_n (lv' := [(3, .int (1 : Int32)), (0, .ref (ly 0)), (1, .int a1), (2, .int v2_21), (4, .int v4_46)]) hx hb dX12_judge_86 rfl hl (by decide) rfl (fun ls hl => ?_)
                      obtain ⟨t12, et12⟩ : ∃ y : Int32, y = v4_46 + 1 := ⟨_, rfl⟩
                      replace hw := hw t12 et12
                      refine lv_iinc (v := t12) (lv' := [(4, .int t12), (3, .int (1 : Int32)), (0, .ref (ly 0)), (1, .int a1), (2, .int v2_21)]) hx hb dX12_judge_87 hl (k := 4) rfl (by rw [et12]; rfl) (by decide) rfl (fun ls hl => ?_)
                      refine lv_goto (tgt := 46) hx hb dX12_judge_90 (by decide) ?_
                      exact ih_46 (1 : Int32) t12 S_46 _ _ ls hw hH (lv_sub hl [2, 3, 4, 1, 0] rfl)
            obtain ⟨m_46, hw⟩ := hw
            refine L_46 _ (fun e3_13 e4_14 S15 H locs ls hw hH hl => ?_) m_46 q0_42 (0 : Int32) S_42 _ _ ls hw hH (lv_sub hl [2, 3, 4, 1, 0] rfl)
            refine lv_iload_n hx hb dX12_judge_93 rfl (lv_at hl 3 rfl) ?_
            refine lv_if_ne (tgt := 101) hx hb dX12_judge_94 (by decide) (fun hc16 => ?_) (fun hc16 => ?_)
            · replace hw := hw.2 hc16
              obtain ⟨t17, et17⟩ : ∃ y : Int32, y = v2_21 + 1 := ⟨_, rfl⟩
              replace hw := hw t17 et17
              refine lv_iinc (v := t17) (lv' := [(2, .int t17), (0, .ref (ly 0)), (1, .int a1), (3, .int e3_13), (4, .int e4_14)]) hx hb dX12_judge_101 hl (k := 2) rfl (by rw [et17]; rfl) (by decide) rfl (fun ls hl => ?_)
              refine lv_goto (tgt := 21) hx hb dX12_judge_104 (by decide) ?_
              exact ih_21 t17 S15 _ _ ls hw hH (lv_sub hl [1, 2, 0] rfl)
            · replace hw := hw.1 hc16
              refine lv_iload_n hx hb dX12_judge_97 rfl (lv_at hl 2 rfl) ?_
              refine lv_iconst (v := 1) hx hb dX12_judge_98 (by decide +kernel) ?_
              refine lv_iadd hx hb dX12_judge_99 ?_
              exact k_iret hx hb hr hlocks hK hN hH hw dX12_judge_100
          refine lv_icmp_ge (tgt := 41) hx hb dX12_judge_34 (by decide) (fun hc18 => ?_) (fun hc18 => ?_)
          · replace hw := hw.1 hc18
            refine lv_iconst (v := 0) hx hb dX12_judge_41 (by decide +kernel) ?_
            exact J_42 (0 : Int32) S_21 _ _ ls hw hH (lv_sub hl [0, 1, 2] rfl)
          · replace hw := hw.2 hc18
            refine lv_iconst (v := 1) hx hb dX12_judge_37 (by decide +kernel) ?_
            refine lv_goto (tgt := 42) hx hb dX12_judge_38 (by decide) ?_
            exact J_42 (1 : Int32) S_21 _ _ ls hw hH (lv_sub hl [0, 1, 2] rfl)
    obtain ⟨m_21, hw⟩ := hw
    refine L_21 _ (fun e2_19 S20 H locs ls hw hH hl => ?_) m_21 (0 : Int32) S4 _ _ ls hw hH (lv_sub hl [1, 2, 0] rfl)
    refine lv_iconst (v := 0) hx hb dX12_judge_107 (by decide +kernel) ?_
    exact k_iret hx hb hr hlocks hK hN hH hw dX12_judge_108
  · replace hw := hw.1 hc3
    refine lv_iconst (v := -1) hx hb dX12_judge_8 (by decide +kernel) ?_
    exact k_iret hx hb hr hlocks hK hN hH hw dX12_judge_9
def wp_X12_isShelf (a0 : Int32) (S : St) (Q : Int32 → St → Prop) : Prop := wp_X12_in a0 (0 : Int32) (3 : Int32) S (fun r2 S1 => (isB r2 ∧ Q r2 S1))
set_option maxHeartbeats 4000000 in
set_option maxRecDepth 100000 in
theorem c_X12_isShelf (l : Launch) (D : va_G) (kA : Nat → ClassId) (ly : Nat → Nat) (n : List Nat) (hn : ∀ c, c < 20 → c ∈ n) (A : Nat → Prop) (a0 : Int32) : Ci l yX12_isShelf wsX12_isShelf 1 22 (Gp D (Er kA ly) ly n A kA) A [.int a0] (wp_X12_isShelf a0) := by
  intro S Q
  refine Met.ofW (cc := cX12_isShelf) (maxL := 1) (ret := (some .boolean)) (by decide) rfl ?_
  intro p e s m args below meth c s₁ B hml hv
  obtain ⟨rfl, ⟨hP, hD, hK, hN⟩, hw⟩ := hv
  have hx := B.exec
  have hb := B.bytes
  have hr := B.returns
  have hts := atoms_spec (ws := wsX12_isShelf) B.pre
  have hown : s.vm.findClass RX12 = some m.cls := findClass_of_methodNamed B.named
  have hlocks := B.notSynchronized
  have hH : Hp D (Er kA ly) ly n A s.heap S s.heap [] := ⟨hP, hD, va_S.rf⟩
  have hl := lv_entry ([.int a0]) (n := 1) (Nat.le_of_ble_eq_true rfl)
  rw [lg_entry_eq]
  generalize (lg_sl ([.int a0]) ++ List.replicate (1 - (lg_sl ([.int a0])).length) Slot.unset).toArray = ls at hl ⊢
  have hl : lv_has ls 1 [(0, .int a0)] := hl
  rw [wp_X12_isShelf] at hw
  refine lv_iload_n hx hb dX12_isShelf_0 rfl (lv_at hl 0 rfl) ?_
  refine lv_iconst (v := 0) hx hb dX12_isShelf_1 (by decide +kernel) ?_
  refine lv_iconst (v := 3) hx hb dX12_isShelf_2 (by decide +kernel) ?_
  refine k_afti (va_runS (As := [.int a0, .int (0 : Int32), .int (3 : Int32)]) (rest := []) ⟨hx, hb, hml, hown, hts⟩ (c_X12_in l D kA ly n hn A a0 (0 : Int32) (3 : Int32) S _) (va_cwS 3 hts gX12_isShelf_X12_in rfl rfl rfl (by decide +kernel) ⟨(Nat.le_of_ble_eq_true rfl), (Nat.le_of_ble_eq_true rfl)⟩) ⟨k_blind, k_pre hK hN hH hw⟩ rfl rfl hl.1 rfl (lv_room (Nat.le_of_ble_eq_true rfl)) dX12_isShelf_3 ⟨Nat.le_refl _, Nat.le_refl _⟩) hH (fun r2 S1 H locs hw hH => ?_)
  exact k_zret hx hb hr hlocks hK hN hH (isB_n hw.1) hw.2 dX12_isShelf_6
def wp_X12_lacksSort (a1 : Int32) (a2 : Int32) (S : St) (Q : Int32 → St → Prop) : Prop := (vp_in a1 4 ∧ ((0 ≤ (gA S 11 a1.toNatClampNeg) → (vp_in a1 4 ∧ (((gA S 11 a1.toNatClampNeg) = a2 → Q (0 : Int32) S) ∧ (¬ (gA S 11 a1.toNatClampNeg) = a2 → Q (-13 : Int32) S)))) ∧ (¬ 0 ≤ (gA S 11 a1.toNatClampNeg) → Q (-11 : Int32) S)))
set_option maxHeartbeats 4000000 in
set_option maxRecDepth 100000 in
theorem c_X12_lacksSort (l : Launch) (D : va_G) (kA : Nat → ClassId) (ly : Nat → Nat) (n : List Nat) (hn : ∀ c, c < 20 → c ∈ n) (A : Nat → Prop) (a1 : Int32) (a2 : Int32) : Ci l yX12_lacksSort wsX12_lacksSort 0 0 (Gp D (Er kA ly) ly n A kA) A [.ref (ly 0), .int a1, .int a2] (wp_X12_lacksSort a1 a2) := by
  intro S Q
  refine Met.ofW (cc := cX12_lacksSort) (maxL := 3) (ret := (some .int)) (by decide) rfl ?_
  intro p e s m args below meth c s₁ B hml hv
  obtain ⟨rfl, ⟨hP, hD, hK, hN⟩, hw⟩ := hv
  have hx := B.exec
  have hb := B.bytes
  have hr := B.returns
  have hts := atoms_spec (ws := wsX12_lacksSort) B.pre
  have hown : s.vm.findClass RX12 = some m.cls := findClass_of_methodNamed B.named
  have hlocks := B.notSynchronized
  have hH : Hp D (Er kA ly) ly n A s.heap S s.heap [] := ⟨hP, hD, va_S.rf⟩
  have hiX12 : ∀ w ∈ u_ws RX12 TX12 39, w ∈ wsX12_lacksSort := by decide +kernel
  have lk0 := hts (.fieldLink RX12 44 "SlowPanesModel" "sorts" "[I") (by decide +kernel)
  have hl := lv_entry ([.ref (ly 0), .int a1, .int a2]) (n := 3) (Nat.le_of_ble_eq_true rfl)
  rw [lg_entry_eq]
  generalize (lg_sl ([.ref (ly 0), .int a1, .int a2]) ++ List.replicate (3 - (lg_sl ([.ref (ly 0), .int a1, .int a2])).length) Slot.unset).toArray = ls at hl ⊢
  have hl : lv_has ls 3 [(0, .ref (ly 0)), (1, .int a1), (2, .int a2)] := hl
  rw [wp_X12_lacksSort] at hw
  refine lv_aload_n hx hb dX12_lacksSort_0 rfl (lv_at hl 0 rfl) ?_
  refine gf_r_23 hx hb hts hiX12 hown hK hn hH lk0 dX12_lacksSort_1 ?_
  refine lv_iload_n hx hb dX12_lacksSort_4 rfl (lv_at hl 1 rfl) ?_
  obtain ⟨hi_1, hw⟩ := hw
  refine k_ild hx hb hK hH (hn _ (by decide)) Er_11 hi_1 dX12_lacksSort_5 ?_
  refine lv_if_ge (tgt := 14) hx hb dX12_lacksSort_6 (by decide) (fun hc2 => ?_) (fun hc2 => ?_)
  · replace hw := hw.1 hc2
    refine lv_aload_n hx hb dX12_lacksSort_14 rfl (lv_at hl 0 rfl) ?_
    refine gf_r_23 hx hb hts hiX12 hown hK hn hH lk0 dX12_lacksSort_15 ?_
    refine lv_iload_n hx hb dX12_lacksSort_18 rfl (lv_at hl 1 rfl) ?_
    obtain ⟨hi_3, hw⟩ := hw
    refine k_ild hx hb hK hH (hn _ (by decide)) Er_11 hi_3 dX12_lacksSort_19 ?_
    refine lv_iload_n hx hb dX12_lacksSort_20 rfl (lv_at hl 2 rfl) ?_
    refine lv_icmp_eq (tgt := 29) hx hb dX12_lacksSort_21 (by decide) (fun hc4 => ?_) (fun hc4 => ?_)
    · replace hw := hw.1 hc4
      refine lv_iconst (v := 0) hx hb dX12_lacksSort_29 (by decide +kernel) ?_
      exact k_iret hx hb hr hlocks hK hN hH hw dX12_lacksSort_30
    · replace hw := hw.2 hc4
      refine lv_bipush (v := -13) hx hb dX12_lacksSort_24 (by decide +kernel) ?_
      refine lv_goto (tgt := 30) hx hb dX12_lacksSort_26 (by decide) ?_
      exact k_iret hx hb hr hlocks hK hN hH hw dX12_lacksSort_30
  · replace hw := hw.2 hc2
    refine lv_bipush (v := -11) hx hb dX12_lacksSort_9 (by decide +kernel) ?_
    refine lv_goto (tgt := 30) hx hb dX12_lacksSort_11 (by decide) ?_
    exact k_iret hx hb hr hlocks hK hN hH hw dX12_lacksSort_30
def wl_X12_views_84 (a1 : Int32) (a2 : Int32) (a3 : Int32) (a4 : Int32) (a5 : Int32) (K_84 : Int32 → St → Prop) : Nat → Int32 → St → Prop
  | 0, _, _ => False
  | fu_84 + 1, v7_84, S_84 => ((a5 ≤ v7_84 → K_84 v7_84 S_84) ∧ (¬ a5 ≤ v7_84 → (vp_in ((((40 : Int32) * a1) + a2) + v7_84) 160 ∧ (∀ t22 : Int64, t22 = (gL S_84 13 ((((40 : Int32) * a1) + a2) + v7_84).toNatClampNeg) → ((0 ≤ (lg_cmp t22 (0 : Int64)) → (((lg_cmp t22 (99 : Int64)) ≤ 0 → (vp_in ((((50 : Int32) * a3) + a4) + v7_84) 200 ∧ ∀ S26 : St, S26 = sA S_84 1 ((((50 : Int32) * a3) + a4) + v7_84).toNatClampNeg (t22.toInt32) → (∀ t27 : Int32, t27 = v7_84 + 1 → wl_X12_views_84 a1 a2 a3 a4 a5 K_84 fu_84 t27 S26))) ∧ (¬ (lg_cmp t22 (99 : Int64)) ≤ 0 → (vp_in ((((50 : Int32) * a3) + a4) + v7_84) 200 ∧ ∀ S29 : St, S29 = sA S_84 1 ((((50 : Int32) * a3) + a4) + v7_84).toNatClampNeg (99 : Int32) → (∀ t30 : Int32, t30 = v7_84 + 1 → wl_X12_views_84 a1 a2 a3 a4 a5 K_84 fu_84 t30 S29))))) ∧ (¬ 0 ≤ (lg_cmp t22 (0 : Int64)) → (vp_in ((((50 : Int32) * a3) + a4) + v7_84) 200 ∧ ∀ S32 : St, S32 = sA S_84 1 ((((50 : Int32) * a3) + a4) + v7_84).toNatClampNeg (0 : Int32) → (∀ t33 : Int32, t33 = v7_84 + 1 → wl_X12_views_84 a1 a2 a3 a4 a5 K_84 fu_84 t33 S32))))))))
def wp_X12_views (a1 : Int32) (a2 : Int32) (a3 : Int32) (a4 : Int32) (a5 : Int32) (S : St) (Q : Int32 → St → Prop) : Prop := wp_X12_isShelf a1 S (fun r2 S1 => ((r2 = 0 → Q (-1 : Int32) S1) ∧ (¬ r2 = 0 → wp_X12_isPlace a3 S1 (fun r5 S4 => ((r5 = 0 → Q (-1 : Int32) S4) ∧ (¬ r5 = 0 → wp_X12_isDay a4 S4 (fun r8 S7 => ((r8 = 0 → Q (-1 : Int32) S7) ∧ (¬ r8 = 0 → wp_X12_in a5 (0 : Int32) (50 : Int32) S7 (fun r11 S10 => ((r11 = 0 → Q (-1 : Int32) S10) ∧ (¬ r11 = 0 → (((a4 + a5) ≤ (50 : Int32) → wp_X12_lacksSort a1 (0 : Int32) S10 (fun r15 S14 => ((r15 = 0 → ((a2 < 0 → Q (-12 : Int32) S14) ∧ (¬ a2 < 0 → (vp_in a1 4 ∧ ((a2 ≤ ((gA S14 12 a1.toNatClampNeg) - a5) → (∃ m_84 : Nat, wl_X12_views_84 a1 a2 a3 a4 a5 (fun e7_34 S35 => Q a5 S35) m_84 (0 : Int32) S14)) ∧ (¬ a2 ≤ ((gA S14 12 a1.toNatClampNeg) - a5) → Q (-12 : Int32) S14)))))) ∧ (¬ r15 = 0 → Q r15 S14)))) ∧ (¬ (a4 + a5) ≤ (50 : Int32) → Q (-1 : Int32) S10))))))))))))))
set_option maxHeartbeats 4000000 in
set_option maxRecDepth 100000 in
theorem c_X12_views (l : Launch) (D : va_G) (kA : Nat → ClassId) (ly : Nat → Nat) (n : List Nat) (hn : ∀ c, c < 20 → c ∈ n) (A : Nat → Prop) (a1 : Int32) (a2 : Int32) (a3 : Int32) (a4 : Int32) (a5 : Int32) : Ci l yX12_views wsX12_views 2 42 (Gp D (Er kA ly) ly n A kA) A [.ref (ly 0), .int a1, .int a2, .int a3, .int a4, .int a5] (wp_X12_views a1 a2 a3 a4 a5) := by
  intro S Q
  refine Met.ofW (cc := cX12_views) (maxL := 10) (ret := (some .int)) (by decide) rfl ?_
  intro p e s m args below meth c s₁ B hml hv
  obtain ⟨rfl, ⟨hP, hD, hK, hN⟩, hw⟩ := hv
  have hx := B.exec
  have hb := B.bytes
  have hr := B.returns
  have hts := atoms_spec (ws := wsX12_views) B.pre
  have hown : s.vm.findClass RX12 = some m.cls := findClass_of_methodNamed B.named
  have hlocks := B.notSynchronized
  have hH : Hp D (Er kA ly) ly n A s.heap S s.heap [] := ⟨hP, hD, va_S.rf⟩
  have hiX12 : ∀ w ∈ u_ws RX12 TX12 39, w ∈ wsX12_views := by decide +kernel
  have lk0 := hts (.fieldLink RX12 47 "SlowPanesModel" "sizes" "[I") (by decide +kernel)
  have lk1 := hts (.fieldLink RX12 50 "SlowPanesModel" "sheets" "[J") (by decide +kernel)
  have lk2 := hts (.fieldLink RX12 7 "SlowPanesModel" "views" "[I") (by decide +kernel)
  have lk3 := hts (.constantLong RX12 277 (99)) (by decide +kernel)
  have hl := lv_entry ([.ref (ly 0), .int a1, .int a2, .int a3, .int a4, .int a5]) (n := 10) (Nat.le_of_ble_eq_true rfl)
  rw [lg_entry_eq]
  generalize (lg_sl ([.ref (ly 0), .int a1, .int a2, .int a3, .int a4, .int a5]) ++ List.replicate (10 - (lg_sl ([.ref (ly 0), .int a1, .int a2, .int a3, .int a4, .int a5])).length) Slot.unset).toArray = ls at hl ⊢
  have hl : lv_has ls 10 [(0, .ref (ly 0)), (1, .int a1), (2, .int a2), (3, .int a3), (4, .int a4), (5, .int a5)] := hl
  rw [wp_X12_views] at hw
  refine lv_iload_n hx hb dX12_views_0 rfl (lv_at hl 1 rfl) ?_
  refine k_afti (va_runS (As := [.int a1]) (rest := []) ⟨hx, hb, hml, hown, hts⟩ (c_X12_isShelf l D kA ly n hn A a1 S _) (va_cwS 1 hts gX12_views_X12_isShelf rfl rfl rfl (by decide +kernel) ⟨(Nat.le_of_ble_eq_true rfl), (Nat.le_of_ble_eq_true rfl)⟩) ⟨k_blind, k_pre hK hN hH hw⟩ rfl rfl hl.1 rfl (lv_room (Nat.le_of_ble_eq_true rfl)) dX12_views_1 ⟨Nat.le_refl _, Nat.le_refl _⟩) hH (fun r2 S1 H locs hw hH => ?_)
  refine lv_if_eq (tgt := 43) hx hb dX12_views_4 (by decide) (fun hc3 => ?_) (fun hc3 => ?_)
  · replace hw := hw.1 hc3
    refine lv_iconst (v := -1) hx hb dX12_views_43 (by decide +kernel) ?_
    exact k_iret hx hb hr hlocks hK hN hH hw dX12_views_44
  · replace hw := hw.2 hc3
    refine lv_iload_n hx hb dX12_views_7 rfl (lv_at hl 3 rfl) ?_
    refine k_afti (va_runS (As := [.int a3]) (rest := []) ⟨hx, hb, hml, hown, hts⟩ (c_X12_isPlace l D kA ly n hn A a3 S1 _) (va_cwS 1 hts gX12_views_X12_isPlace rfl rfl rfl (by decide +kernel) ⟨(Nat.le_of_ble_eq_true rfl), (Nat.le_of_ble_eq_true rfl)⟩) ⟨k_blind, k_pre hK hN hH hw⟩ rfl rfl hl.1 rfl (lv_room (Nat.le_of_ble_eq_true rfl)) dX12_views_8 ⟨Nat.le_refl _, Nat.le_refl _⟩) hH (fun r5 S4 H locs hw hH => ?_)
    refine lv_if_eq (tgt := 43) hx hb dX12_views_11 (by decide) (fun hc6 => ?_) (fun hc6 => ?_)
    · replace hw := hw.1 hc6
      refine lv_iconst (v := -1) hx hb dX12_views_43 (by decide +kernel) ?_
      exact k_iret hx hb hr hlocks hK hN hH hw dX12_views_44
    · replace hw := hw.2 hc6
      refine lv_iload hx hb dX12_views_14 (lv_at hl 4 rfl) ?_
      refine k_afti (va_runS (As := [.int a4]) (rest := []) ⟨hx, hb, hml, hown, hts⟩ (c_X12_isDay l D kA ly n hn A a4 S4 _) (va_cwS 1 hts gX12_views_X12_isDay rfl rfl rfl (by decide +kernel) ⟨(Nat.le_of_ble_eq_true rfl), (Nat.le_of_ble_eq_true rfl)⟩) ⟨k_blind, k_pre hK hN hH hw⟩ rfl rfl hl.1 rfl (lv_room (Nat.le_of_ble_eq_true rfl)) dX12_views_16 ⟨Nat.le_refl _, Nat.le_refl _⟩) hH (fun r8 S7 H locs hw hH => ?_)
      refine lv_if_eq (tgt := 43) hx hb dX12_views_19 (by decide) (fun hc9 => ?_) (fun hc9 => ?_)
      · replace hw := hw.1 hc9
        refine lv_iconst (v := -1) hx hb dX12_views_43 (by decide +kernel) ?_
        exact k_iret hx hb hr hlocks hK hN hH hw dX12_views_44
      · replace hw := hw.2 hc9
        refine lv_iload hx hb dX12_views_22 (lv_at hl 5 rfl) ?_
        refine lv_iconst (v := 0) hx hb dX12_views_24 (by decide +kernel) ?_
        refine lv_bipush (v := 50) hx hb dX12_views_25 (by decide +kernel) ?_
        refine k_afti (va_runS (As := [.int a5, .int (0 : Int32), .int (50 : Int32)]) (rest := []) ⟨hx, hb, hml, hown, hts⟩ (c_X12_in l D kA ly n hn A a5 (0 : Int32) (50 : Int32) S7 _) (va_cwS 3 hts gX12_views_X12_in rfl rfl rfl (by decide +kernel) ⟨(Nat.le_of_ble_eq_true rfl), (Nat.le_of_ble_eq_true rfl)⟩) ⟨k_blind, k_pre hK hN hH hw⟩ rfl rfl hl.1 rfl (lv_room (Nat.le_of_ble_eq_true rfl)) dX12_views_27 ⟨Nat.le_refl _, Nat.le_refl _⟩) hH (fun r11 S10 H locs hw hH => ?_)
        refine lv_if_eq (tgt := 43) hx hb dX12_views_30 (by decide) (fun hc12 => ?_) (fun hc12 => ?_)
        · replace hw := hw.1 hc12
          refine lv_iconst (v := -1) hx hb dX12_views_43 (by decide +kernel) ?_
          exact k_iret hx hb hr hlocks hK hN hH hw dX12_views_44
        · replace hw := hw.2 hc12
          refine lv_iload hx hb dX12_views_33 (lv_at hl 4 rfl) ?_
          refine lv_iload hx hb dX12_views_35 (lv_at hl 5 rfl) ?_
          refine lv_iadd hx hb dX12_views_37 ?_
          refine lv_bipush (v := 50) hx hb dX12_views_38 (by decide +kernel) ?_
          refine lv_icmp_le (tgt := 45) hx hb dX12_views_40 (by decide) (fun hc13 => ?_) (fun hc13 => ?_)
          · replace hw := hw.1 hc13
            refine lv_aload_n hx hb dX12_views_45 rfl (lv_at hl 0 rfl) ?_
            refine lv_iload_n hx hb dX12_views_46 rfl (lv_at hl 1 rfl) ?_
            refine lv_iconst (v := 0) hx hb dX12_views_47 (by decide +kernel) ?_
            refine k_afti (va_runV (As := [.int a1, .int (0 : Int32)]) (rest := []) ⟨hx, hb, hml, hown, hts⟩ (c_X12_lacksSort l D kA ly n hn A a1 (0 : Int32) S10 _) (cwV 2 hts gX12_views_X12_lacksSort rfl rfl rfl (by decide +kernel) ⟨(Nat.le_of_ble_eq_true rfl), (Nat.le_of_ble_eq_true rfl)⟩) ⟨k_blind, (k_recv hK hH (hn _ (by decide)) Er_0 rfl), k_pre hK hN hH hw⟩ rfl rfl hl.1 rfl (lv_room (Nat.le_of_ble_eq_true rfl)) dX12_views_48 ⟨Nat.le_refl _, Nat.le_refl _⟩) hH (fun r15 S14 H locs hw hH => ?_)
            refine lv_istore (lv' := [(6, .int r15), (0, .ref (ly 0)), (1, .int a1), (2, .int a2), (3, .int a3), (4, .int a4), (5, .int a5)]) hx hb dX12_views_51 hl (by decide) rfl (fun ls hl => ?_)
            refine lv_iload hx hb dX12_views_53 (lv_at hl 0 rfl) ?_
            refine lv_if_eq (tgt := 61) hx hb dX12_views_55 (by decide) (fun hc16 => ?_) (fun hc16 => ?_)
            · replace hw := hw.1 hc16
              refine lv_iload_n hx hb dX12_views_61 rfl (lv_at hl 3 rfl) ?_
              refine lv_if_lt (tgt := 78) hx hb dX12_views_62 (by decide) (fun hc17 => ?_) (fun hc17 => ?_)
              · replace hw := hw.1 hc17
                refine lv_bipush (v := -12) hx hb dX12_views_78 (by decide +kernel) ?_
                exact k_iret hx hb hr hlocks hK hN hH hw dX12_views_80
              · replace hw := hw.2 hc17
                refine lv_iload_n hx hb dX12_views_65 rfl (lv_at hl 3 rfl) ?_
                refine lv_aload_n hx hb dX12_views_66 rfl (lv_at hl 1 rfl) ?_
                refine gf_r_24 hx hb hts hiX12 hown hK hn hH lk0 dX12_views_67 ?_
                refine lv_iload_n hx hb dX12_views_70 rfl (lv_at hl 2 rfl) ?_
                obtain ⟨hi_18, hw⟩ := hw
                refine k_ild hx hb hK hH (hn _ (by decide)) Er_12 hi_18 dX12_views_71 ?_
                refine lv_iload hx hb dX12_views_72 (lv_at hl 6 rfl) ?_
                refine lv_isub hx hb dX12_views_74 ?_
                refine lv_icmp_le (tgt := 81) hx hb dX12_views_75 (by decide) (fun hc19 => ?_) (fun hc19 => ?_)
                · replace hw := hw.1 hc19
                  refine lv_iconst (v := 0) hx hb dX12_views_81 (by decide +kernel) ?_
                  refine lv_istore (lv' := [(7, .int (0 : Int32)), (6, .int r15), (0, .ref (ly 0)), (1, .int a1), (2, .int a2), (3, .int a3), (4, .int a4), (5, .int a5)]) hx hb dX12_views_82 hl (by decide) rfl (fun ls hl => ?_)
                  have L_84 : ∀ (K_84 : Int32 → St → Prop) (hk_84 : ∀ (v7_84 : Int32) (S_84 : St) (H : Heap) (locs : List Loc) (ls : Array Slot), K_84 v7_84 S_84 → Hp D (Er kA ly) ly n A s.heap S_84 H locs → lv_has ls 10 [(0, .ref (ly 0)), (1, .int a1), (2, .int a2), (3, .int a3), (4, .int a4), (5, .int a5), (6, .int r15), (7, .int v7_84)] → W p l e (headSpec wsX12_views { frames := 2, cells := 0, slots := 0, locals := 42 }).room s m [.ref (ly 0), .int a1, .int a2, .int a3, .int a4, .int a5].toArray below meth c H locs 0 0 (MQ below (va_Qi Q (Gp D (Er kA ly) ly n A kA) A) [.ref (ly 0), .int a1, .int a2, .int a3, .int a4, .int a5].toArray s 0 0 A) (F0 m 156 ls [])) (fu_84 : Nat) (v7_84 : Int32) (S_84 : St) (H : Heap) (locs : List Loc) (ls : Array Slot), wl_X12_views_84 a1 a2 a3 a4 a5 K_84 fu_84 v7_84 S_84 → Hp D (Er kA ly) ly n A s.heap S_84 H locs → lv_has ls 10 [(0, .ref (ly 0)), (1, .int a1), (2, .int a2), (3, .int a3), (4, .int a4), (5, .int a5), (6, .int r15), (7, .int v7_84)] → W p l e (headSpec wsX12_views { frames := 2, cells := 0, slots := 0, locals := 42 }).room s m [.ref (ly 0), .int a1, .int a2, .int a3, .int a4, .int a5].toArray below meth c H locs 0 0 (MQ below (va_Qi Q (Gp D (Er kA ly) ly n A kA) A) [.ref (ly 0), .int a1, .int a2, .int a3, .int a4, .int a5].toArray s 0 0 A) (F0 m 84 ls []) := by
                    intro K_84 hk_84 fu_84
                    induction fu_84 with
                    | zero => intro v7_84 S_84 H locs ls hw hH hl; rw [wl_X12_views_84] at hw; exact hw.elim
                    | succ fu_84 ih_84 =>
                      intro v7_84 S_84 H locs ls hw hH hl
                      rw [wl_X12_views_84] at hw
                      refine lv_iload hx hb dX12_views_84 (lv_at hl 7 rfl) ?_
                      refine lv_iload hx hb dX12_views_86 (lv_at hl 5 rfl) ?_
                      refine lv_icmp_ge (tgt := 156) hx hb dX12_views_88 (by decide) (fun hc20 => ?_) (fun hc20 => ?_)
                      · replace hw := hw.1 hc20
                        exact hk_84 v7_84 S_84 _ _ ls hw hH (lv_sub hl [0, 1, 2, 3, 4, 5, 6, 7] rfl)
                      · replace hw := hw.2 hc20
                        refine lv_aload_n hx hb dX12_views_91 rfl (lv_at hl 0 rfl) ?_
                        refine gf_r_25 hx hb hts hiX12 hown hK hn hH lk1 dX12_views_92 ?_
                        refine lv_bipush (v := 40) hx hb dX12_views_95 (by decide +kernel) ?_
                        refine lv_iload_n hx hb dX12_views_97 rfl (lv_at hl 1 rfl) ?_
                        refine lv_imul hx hb dX12_views_98 ?_
                        refine lv_iload_n hx hb dX12_views_99 rfl (lv_at hl 2 rfl) ?_
                        refine lv_iadd hx hb dX12_views_100 ?_
                        refine lv_iload hx hb dX12_views_101 (lv_at hl 7 rfl) ?_
                        refine lv_iadd hx hb dX12_views_103 ?_
                        obtain ⟨hi_21, hw⟩ := hw
                        refine k_lld hx hb hK hH (hn _ (by decide)) Er_s hi_21 dX12_views_104 ?_
                        refine lv_topl (fun t22 et22 => ?_)
                        replace hw := hw t22 et22
                        refine lv_lstore (lv' := [(8, .long t22), (0, .ref (ly 0)), (1, .int a1), (2, .int a2), (3, .int a3), (4, .int a4), (5, .int a5), (6, .int r15), (7, .int v7_84)]) hx hb dX12_views_105 hl (by decide) rfl (fun ls hl => ?_)
                        refine lv_aload_n hx hb dX12_views_107 rfl (lv_at hl 1 rfl) ?_
                        refine gf_r_0 hx hb hts hiX12 hown hK hn hH lk2 dX12_views_108 ?_
                        refine lv_bipush (v := 50) hx hb dX12_views_111 (by decide +kernel) ?_
                        refine lv_iload_n hx hb dX12_views_113 rfl (lv_at hl 4 rfl) ?_
                        refine lv_imul hx hb dX12_views_114 ?_
                        refine lv_iload hx hb dX12_views_115 (lv_at hl 5 rfl) ?_
                        refine lv_iadd hx hb dX12_views_117 ?_
                        refine lv_iload hx hb dX12_views_118 (lv_at hl 8 rfl) ?_
                        refine lv_iadd hx hb dX12_views_120 ?_
                        refine lv_lload hx hb dX12_views_121 (lv_at hl 0 rfl) ?_
                        refine lv_lconst (v := 0) hx hb dX12_views_123 (by decide +kernel) ?_
                        refine W.lcmp hx hb dX12_views_124 ?_
                        refine lv_if_ge (tgt := 132) hx hb dX12_views_125 (by decide) (fun hc23 => ?_) (fun hc23 => ?_)
                        · replace hw := hw.1 hc23
                          refine lv_lload hx hb dX12_views_132 (lv_at hl 0 rfl) ?_
                          refine lv_ldc2 (v := 99) hx hb hown lk3 dX12_views_134 ?_
                          refine W.lcmp hx hb dX12_views_137 ?_
                          refine lv_if_le (tgt := 146) hx hb dX12_views_138 (by decide) (fun hc24 => ?_) (fun hc24 => ?_)
                          · replace hw := hw.1 hc24
                            refine lv_lload hx hb dX12_views_146 (lv_at hl 0 rfl) ?_
                            refine lv_l2i hx hb dX12_views_148 rfl ?_
                            obtain ⟨hi_25, hw⟩ := hw
                            refine k_ist hx hb hK hH (hn _ (by decide)) (fun _ => Er_1) hi_25 dX12_views_149 (fun S26 H locs eS26 hH => ?_)
                            replace hw := hw S26 eS26
                            obtain ⟨t27, et27⟩ : ∃ y : Int32, y = v7_84 + 1 := ⟨_, rfl⟩
                            replace hw := hw t27 et27
                            refine lv_iinc (v := t27) (lv' := [(7, .int t27), (8, .long t22), (0, .ref (ly 0)), (1, .int a1), (2, .int a2), (3, .int a3), (4, .int a4), (5, .int a5), (6, .int r15)]) hx hb dX12_views_150 hl (k := 8) rfl (by rw [et27]; rfl) (by decide) rfl (fun ls hl => ?_)
                            refine lv_goto (tgt := 84) hx hb dX12_views_153 (by decide) ?_
                            exact ih_84 t27 S26 _ _ ls hw hH (lv_sub hl [2, 3, 4, 5, 6, 7, 8, 0] rfl)
                          · replace hw := hw.2 hc24
                            refine lv_bipush (v := 99) hx hb dX12_views_141 (by decide +kernel) ?_
                            refine lv_goto (tgt := 149) hx hb dX12_views_143 (by decide) ?_
                            obtain ⟨hi_28, hw⟩ := hw
                            refine k_ist hx hb hK hH (hn _ (by decide)) (fun _ => Er_1) hi_28 dX12_views_149 (fun S29 H locs eS29 hH => ?_)
                            replace hw := hw S29 eS29
                            obtain ⟨t30, et30⟩ : ∃ y : Int32, y = v7_84 + 1 := ⟨_, rfl⟩
                            replace hw := hw t30 et30
                            refine lv_iinc (v := t30) (lv' := [(7, .int t30), (8, .long t22), (0, .ref (ly 0)), (1, .int a1), (2, .int a2), (3, .int a3), (4, .int a4), (5, .int a5), (6, .int r15)]) hx hb dX12_views_150 hl (k := 8) rfl (by rw [et30]; rfl) (by decide) rfl (fun ls hl => ?_)
                            refine lv_goto (tgt := 84) hx hb dX12_views_153 (by decide) ?_
                            exact ih_84 t30 S29 _ _ ls hw hH (lv_sub hl [2, 3, 4, 5, 6, 7, 8, 0] rfl)
                        · replace hw := hw.2 hc23
                          refine lv_iconst (v := 0) hx hb dX12_views_128 (by decide +kernel) ?_
                          refine lv_goto (tgt := 149) hx hb dX12_views_129 (by decide) ?_
                          obtain ⟨hi_31, hw⟩ := hw
                          refine k_ist hx hb hK hH (hn _ (by decide)) (fun _ => Er_1) hi_31 dX12_views_149 (fun S32 H locs eS32 hH => ?_)
                          replace hw := hw S32 eS32
                          obtain ⟨t33, et33⟩ : ∃ y : Int32, y = v7_84 + 1 := ⟨_, rfl⟩
                          replace hw := hw t33 et33
                          refine lv_iinc (v := t33) (lv' := [(7, .int t33), (8, .long t22), (0, .ref (ly 0)), (1, .int a1), (2, .int a2), (3, .int a3), (4, .int a4), (5, .int a5), (6, .int r15)]) hx hb dX12_views_150 hl (k := 8) rfl (by rw [et33]; rfl) (by decide) rfl (fun ls hl => ?_)
                          refine lv_goto (tgt := 84) hx hb dX12_views_153 (by decide) ?_
                          exact ih_84 t33 S32 _ _ ls hw hH (lv_sub hl [2, 3, 4, 5, 6, 7, 8, 0] rfl)
                  obtain ⟨m_84, hw⟩ := hw
                  refine L_84 _ (fun e7_34 S35 H locs ls hw hH hl => ?_) m_84 (0 : Int32) S14 _ _ ls hw hH (lv_sub hl [2, 3, 4, 5, 6, 7, 1, 0] rfl)
                  refine lv_iload hx hb dX12_views_156 (lv_at hl 5 rfl) ?_
                  exact k_iret hx hb hr hlocks hK hN hH hw dX12_views_158
                · replace hw := hw.2 hc19
                  refine lv_bipush (v := -12) hx hb dX12_views_78 (by decide +kernel) ?_
                  exact k_iret hx hb hr hlocks hK hN hH hw dX12_views_80
            · replace hw := hw.2 hc16
              refine lv_iload hx hb dX12_views_58 (lv_at hl 0 rfl) ?_
              exact k_iret hx hb hr hlocks hK hN hH hw dX12_views_60
          · replace hw := hw.2 hc13
            refine lv_iconst (v := -1) hx hb dX12_views_43 (by decide +kernel) ?_
            exact k_iret hx hb hr hlocks hK hN hH hw dX12_views_44
