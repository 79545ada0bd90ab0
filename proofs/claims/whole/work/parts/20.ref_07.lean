def wl_X12_let_33 (a1 : Int32) (a2 : Int32) (a3 : Int32) (K_33 : Int32 → Int32 → Int32 → St → Prop) : Nat → Int32 → Int32 → Int32 → St → Prop
  | 0, _, _, _, _ => False
  | fu_33 + 1, v4_33, v5_33, v6_33, S_33 => (((4 : Int32) < v6_33 → K_33 v4_33 v5_33 v6_33 S_33) ∧ (¬ (4 : Int32) < v6_33 → wp_X12_lends S_33 (fun S11 => wp_X12_becomes a1 (2 : Int32) v6_33 S11 (fun S12 => wp_X12_worthOf a1 a2 a3 S12 (fun r14 S13 => (∀ S15 : St, S15 = sI S13 0 3 (0 : Int32) → ((r14 ≤ v5_33 → ((r14 ≤ v5_33 → (∀ t18 : Int32, t18 = v6_33 + 1 → wl_X12_let_33 a1 a2 a3 K_33 fu_33 v4_33 v5_33 t18 S15)) ∧ (¬ r14 ≤ v5_33 → (∀ t19 : Int32, t19 = v6_33 + 1 → wl_X12_let_33 a1 a2 a3 K_33 fu_33 v4_33 r14 t19 S15)))) ∧ (¬ r14 ≤ v5_33 → ((r14 ≤ v5_33 → (∀ t21 : Int32, t21 = v6_33 + 1 → wl_X12_let_33 a1 a2 a3 K_33 fu_33 v6_33 v5_33 t21 S15)) ∧ (¬ r14 ≤ v5_33 → (∀ t22 : Int32, t22 = v6_33 + 1 → wl_X12_let_33 a1 a2 a3 K_33 fu_33 v6_33 r14 t22 S15)))))))))))
def wp_X12_let (a1 : Int32) (a2 : Int32) (a3 : Int32) (S : St) (Q : Int32 → St → Prop) : Prop := wp_X12_isPane a1 S (fun r2 S1 => ((r2 = 0 → Q (-1 : Int32) S1) ∧ (¬ r2 = 0 → wp_X12_isLooker a2 S1 (fun r5 S4 => ((r5 = 0 → Q (-1 : Int32) S4) ∧ (¬ r5 = 0 → wp_X12_isLong a3 S4 (fun r8 S7 => ((r8 = 0 → Q (-1 : Int32) S7) ∧ (¬ r8 = 0 → (∃ m_33 : Nat, wl_X12_let_33 a1 a2 a3 (fun e4_23 e5_24 e6_25 S26 => Q e4_23 S26) m_33 (0 : Int32) (-1 : Int32) (0 : Int32) S7))))))))))
set_option maxHeartbeats 4000000 in
set_option maxRecDepth 100000 in
theorem c_X12_let (l : Launch) (D : va_G) (kA : Nat → ClassId) (ly : Nat → Nat) (n : List Nat) (hn : ∀ c, c < 20 → c ∈ n) (A : Nat → Prop) (a1 : Int32) (a2 : Int32) (a3 : Int32) : Ci l yX12_let wsX12_let 4 93 (Gp D (Er kA ly) ly n A kA) A [.ref (ly 0), .int a1, .int a2, .int a3] (wp_X12_let a1 a2 a3) := by
  intro S Q
  refine Met.ofW (cc := cX12_let) (maxL := 8) (ret := (some .int)) (by decide) rfl ?_
  intro p e s m args below meth c s₁ B hml hv
  obtain ⟨rfl, ⟨hP, hD, hK, hN⟩, hw⟩ := hv
  have hx := B.exec
  have hb := B.bytes
  have hr := B.returns
  have hts := atoms_spec (ws := wsX12_let) B.pre
  have hown : s.vm.findClass RX12 = some m.cls := findClass_of_methodNamed B.named
  have hlocks := B.notSynchronized
  have hH : Hp D (Er kA ly) ly n A s.heap S s.heap [] := ⟨hP, hD, va_S.rf⟩
  have hiX12 : ∀ w ∈ u_ws RX12 TX12 39, w ∈ wsX12_let := by decide +kernel
  have lk0 := hts (.fieldLink RX12 76 "SlowPanesModel" "at" "I") (by decide +kernel)
  have hl := lv_entry ([.ref (ly 0), .int a1, .int a2, .int a3]) (n := 8) (Nat.le_of_ble_eq_true rfl)
  rw [lg_entry_eq]
  generalize (lg_sl ([.ref (ly 0), .int a1, .int a2, .int a3]) ++ List.replicate (8 - (lg_sl ([.ref (ly 0), .int a1, .int a2, .int a3])).length) Slot.unset).toArray = ls at hl ⊢
  have hl : lv_has ls 8 [(0, .ref (ly 0)), (1, .int a1), (2, .int a2), (3, .int a3)] := hl
  rw [wp_X12_let] at hw
  refine lv_aload_n hx hb dX12_let_0 rfl (lv_at hl 0 rfl) ?_
  refine lv_iload_n hx hb dX12_let_1 rfl (lv_at hl 1 rfl) ?_
  refine k_afti (va_runV (As := [.int a1]) (rest := []) ⟨hx, hb, hml, hown, hts⟩ (c_X12_isPane l D kA ly n hn A a1 S _) (cwV 1 hts gX12_let_X12_isPane rfl rfl rfl (by decide +kernel) ⟨(Nat.le_of_ble_eq_true rfl), (Nat.le_of_ble_eq_true rfl)⟩) ⟨k_blind, (k_recv hK hH (hn _ (by decide)) Er_0 rfl), k_pre hK hN hH hw⟩ rfl rfl hl.1 rfl (lv_room (Nat.le_of_ble_eq_true rfl)) dX12_let_2 ⟨Nat.le_refl _, Nat.le_refl _⟩) hH (fun r2 S1 H locs hw hH => ?_)
  refine lv_if_eq (tgt := 22) hx hb dX12_let_5 (by decide) (fun hc3 => ?_) (fun hc3 => ?_)
  · replace hw := hw.1 hc3
    refine lv_iconst (v := -1) hx hb dX12_let_22 (by decide +kernel) ?_
    exact k_iret hx hb hr hlocks hK hN hH hw dX12_let_23
  · replace hw := hw.2 hc3
    refine lv_iload_n hx hb dX12_let_8 rfl (lv_at hl 2 rfl) ?_
    refine k_afti (va_runS (As := [.int a2]) (rest := []) ⟨hx, hb, hml, hown, hts⟩ (c_X12_isLooker l D kA ly n hn A a2 S1 _) (va_cwS 1 hts gX12_let_X12_isLooker rfl rfl rfl (by decide +kernel) ⟨(Nat.le_of_ble_eq_true rfl), (Nat.le_of_ble_eq_true rfl)⟩) ⟨k_blind, k_pre hK hN hH hw⟩ rfl rfl hl.1 rfl (lv_room (Nat.le_of_ble_eq_true rfl)) dX12_let_9 ⟨Nat.le_refl _, Nat.le_refl _⟩) hH (fun r5 S4 H locs hw hH => ?_)
    refine lv_if_eq (tgt := 22) hx hb dX12_let_12 (by decide) (fun hc6 => ?_) (fun hc6 => ?_)
    · replace hw := hw.1 hc6
      refine lv_iconst (v := -1) hx hb dX12_let_22 (by decide +kernel) ?_
      exact k_iret hx hb hr hlocks hK hN hH hw dX12_let_23
    · replace hw := hw.2 hc6
      refine lv_iload_n hx hb dX12_let_15 rfl (lv_at hl 3 rfl) ?_
      refine k_afti (va_runS (As := [.int a3]) (rest := []) ⟨hx, hb, hml, hown, hts⟩ (c_X12_isLong l D kA ly n hn A a3 S4 _) (va_cwS 1 hts gX12_let_X12_isLong rfl rfl rfl (by decide +kernel) ⟨(Nat.le_of_ble_eq_true rfl), (Nat.le_of_ble_eq_true rfl)⟩) ⟨k_blind, k_pre hK hN hH hw⟩ rfl rfl hl.1 rfl (lv_room (Nat.le_of_ble_eq_true rfl)) dX12_let_16 ⟨Nat.le_refl _, Nat.le_refl _⟩) hH (fun r8 S7 H locs hw hH => ?_)
      refine lv_if_ne (tgt := 24) hx hb dX12_let_19 (by decide) (fun hc9 => ?_) (fun hc9 => ?_)
      · replace hw := hw.2 hc9
        refine lv_iconst (v := 0) hx hb dX12_let_24 (by decide +kernel) ?_
        refine lv_istore (lv' := [(4, .int (0 : Int32)), (0, .ref (ly 0)), (1, .int a1), (2, .int a2), (3, .int a3)]) hx hb dX12_let_25 hl (by decide) rfl (fun ls hl => ?_)
        refine lv_iconst (v := -1) hx hb dX12_let_27 (by decide +kernel) ?_
        refine lv_istore (lv' := [(5, .int (-1 : Int32)), (4, .int (0 : Int32)), (0, .ref (ly 0)), (1, .int a1), (2, .int a2), (3, .int a3)]) hx hb dX12_let_28 hl (by decide) rfl (fun ls hl => ?_)
        refine lv_iconst (v := 0) hx hb dX12_let_30 (by decide +kernel) ?_
        refine lv_istore (lv' := [(6, .int (0 : Int32)), (5, .int (-1 : Int32)), (4, .int (0 : Int32)), (0, .ref (ly 0)), (1, .int a1), (2, .int a2), (3, .int a3)]) hx hb dX12_let_31 hl (by decide) rfl (fun ls hl => ?_)
        have L_33 : ∀ (K_33 : Int32 → Int32 → Int32 → St → Prop) (hk_33 : ∀ (v4_33 : Int32) (v5_33 : Int32) (v6_33 : Int32) (S_33 : St) (H : Heap) (locs : List Loc) (ls : Array Slot), K_33 v4_33 v5_33 v6_33 S_33 → Hp D (Er kA ly) ly n A s.heap S_33 H locs → lv_has ls 8 [(0, .ref (ly 0)), (1, .int a1), (2, .int a2), (3, .int a3), (4, .int v4_33), (5, .int v5_33), (6, .int v6_33)] → W p l e (headSpec wsX12_let { frames := 4, cells := 0, slots := 0, locals := 93 }).room s m [.ref (ly 0), .int a1, .int a2, .int a3].toArray below meth c H locs 0 0 (MQ below (va_Qi Q (Gp D (Er kA ly) ly n A kA) A) [.ref (ly 0), .int a1, .int a2, .int a3].toArray s 0 0 A) (F0 m 103 ls [])) (fu_33 : Nat) (v4_33 : Int32) (v5_33 : Int32) (v6_33 : Int32) (S_33 : St) (H : Heap) (locs : List Loc) (ls : Array Slot), wl_X12_let_33 a1 a2 a3 K_33 fu_33 v4_33 v5_33 v6_33 S_33 → Hp D (Er kA ly) ly n A s.heap S_33 H locs → lv_has ls 8 [(0, .ref (ly 0)), (1, .int a1), (2, .int a2), (3, .int a3), (4, .int v4_33), (5, .int v5_33), (6, .int v6_33)] → W p l e (headSpec wsX12_let { frames := 4, cells := 0, slots := 0, locals := 93 }).room s m [.ref (ly 0), .int a1, .int a2, .int a3].toArray below meth c H locs 0 0 (MQ below (va_Qi Q (Gp D (Er kA ly) ly n A kA) A) [.ref (ly 0), .int a1, .int a2, .int a3].toArray s 0 0 A) (F0 m 33 ls []) := by
          intro K_33 hk_33 fu_33
          induction fu_33 with
          | zero => intro v4_33 v5_33 v6_33 S_33 H locs ls hw hH hl; rw [wl_X12_let_33] at hw; exact hw.elim
          | succ fu_33 ih_33 =>
            intro v4_33 v5_33 v6_33 S_33 H locs ls hw hH hl
            rw [wl_X12_let_33] at hw
            refine lv_iload hx hb dX12_let_33 (lv_at hl 6 rfl) ?_
            refine lv_iconst (v := 4) hx hb dX12_let_35 (by decide +kernel) ?_
            refine lv_icmp_gt (tgt := 103) hx hb dX12_let_36 (by decide) (fun hc10 => ?_) (fun hc10 => ?_)
            · replace hw := hw.1 hc10
              exact hk_33 v4_33 v5_33 v6_33 S_33 _ _ ls hw hH (lv_sub hl [0, 1, 2, 3, 4, 5, 6] rfl)
            · replace hw := hw.2 hc10
              refine lv_aload_n hx hb dX12_let_39 rfl (lv_at hl 0 rfl) ?_
              refine k_aftv (va_runV (As := []) (rest := []) ⟨hx, hb, hml, hown, hts⟩ (c_X12_lends l D kA ly n hn A S_33 _) (cwV 0 hts gX12_let_X12_lends rfl rfl rfl (by decide +kernel) ⟨(Nat.le_of_ble_eq_true rfl), (Nat.le_of_ble_eq_true rfl)⟩) ⟨k_blind, (k_recv hK hH (hn _ (by decide)) Er_0 rfl), k_pre hK hN hH hw⟩ rfl rfl hl.1 rfl (lv_room (Nat.le_of_ble_eq_true rfl)) dX12_let_40 ⟨Nat.le_refl _, Nat.le_refl _⟩) hH (fun S11 H locs hw hH => ?_)
              refine lv_aload_n hx hb dX12_let_43 rfl (lv_at hl 0 rfl) ?_
              refine lv_iload_n hx hb dX12_let_44 rfl (lv_at hl 1 rfl) ?_
              refine lv_iconst (v := 2) hx hb dX12_let_45 (by decide +kernel) ?_
              refine lv_iload hx hb dX12_let_46 (lv_at hl 6 rfl) ?_
              refine k_aftv (va_runV (As := [.int a1, .int (2 : Int32), .int v6_33]) (rest := []) ⟨hx, hb, hml, hown, hts⟩ (c_X12_becomes l D kA ly n hn A a1 (2 : Int32) v6_33 S11 _) (cwV 3 hts gX12_let_X12_becomes rfl rfl rfl (by decide +kernel) ⟨(Nat.le_of_ble_eq_true rfl), (Nat.le_of_ble_eq_true rfl)⟩) ⟨k_blind, (k_recv hK hH (hn _ (by decide)) Er_0 rfl), k_pre hK hN hH hw⟩ rfl rfl hl.1 rfl (lv_room (Nat.le_of_ble_eq_true rfl)) dX12_let_48 ⟨Nat.le_refl _, Nat.le_refl _⟩) hH (fun S12 H locs hw hH => ?_)
              refine lv_aload_n hx hb dX12_let_51 rfl (lv_at hl 0 rfl) ?_
              refine lv_iload_n hx hb dX12_let_52 rfl (lv_at hl 1 rfl) ?_
              refine lv_iload_n hx hb dX12_let_53 rfl (lv_at hl 2 rfl) ?_
              refine lv_iload_n hx hb dX12_let_54 rfl (lv_at hl 3 rfl) ?_
              refine k_afti (va_runV (As := [.int a1, .int a2, .int a3]) (rest := []) ⟨hx, hb, hml, hown, hts⟩ (c_X12_worthOf l D kA ly n hn A a1 a2 a3 S12 _) (cwV 3 hts gX12_let_X12_worthOf rfl rfl rfl (by decide +kernel) ⟨(Nat.le_of_ble_eq_true rfl), (Nat.le_of_ble_eq_true rfl)⟩) ⟨k_blind, (k_recv hK hH (hn _ (by decide)) Er_0 rfl), k_pre hK hN hH hw⟩ rfl rfl hl.1 rfl (lv_room (Nat.le_of_ble_eq_true rfl)) dX12_let_55 ⟨Nat.le_refl _, Nat.le_refl _⟩) hH (fun r14 S13 H locs hw hH => ?_)
              refine lv_istore (lv' := [(7, .int r14), (0, .ref (ly 0)), (1, .int a1), (2, .int a2), (3, .int a3), (4, .int v4_33), (5, .int v5_33), (6, .int v6_33)]) hx hb dX12_let_58 hl (by decide) rfl (fun ls hl => ?_)
              refine lv_aload_n hx hb dX12_let_60 rfl (lv_at hl 1 rfl) ?_
              refine lv_iconst (v := 0) hx hb dX12_let_61 (by decide +kernel) ?_
              refine pf_r_3 hx hb hts hiX12 hown hK hn hH lk0 dX12_let_62 (fun S15 H locs eS15 hH => ?_)
              replace hw := hw S15 eS15
              refine lv_iload hx hb dX12_let_65 (lv_at hl 0 rfl) ?_
              refine lv_iload hx hb dX12_let_67 (lv_at hl 6 rfl) ?_
              refine lv_icmp_le (tgt := 77) hx hb dX12_let_69 (by decide) (fun hc16 => ?_) (fun hc16 => ?_)
              · replace hw := hw.1 hc16
                refine lv_iload hx hb dX12_let_77 (lv_at hl 5 rfl) ?_
                refine lv_istore (lv' := [(4, .int v4_33), (7, .int r14), (0, .ref (ly 0)), (1, .int a1), (2, .int a2), (3, .int a3), (5, .int v5_33), (6, .int v6_33)]) hx hb dX12_let_79 hl (by decide) rfl (fun ls hl => ?_)
                refine lv_iload hx hb dX12_let_81 (lv_at hl 1 rfl) ?_
                refine lv_iload hx hb dX12_let_83 (lv_at hl 6 rfl) ?_
                refine lv_icmp_le (tgt := 93) hx hb dX12_let_85 (by decide) (fun hc17 => ?_) (fun hc17 => ?_)
                · replace hw := hw.1 hc17
                  refine lv_iload hx hb dX12_let_93 (lv_at hl 6 rfl) ?_
                  refine lv_istore (lv' := [(5, .int v5_33), (4, .int v4_33), (7, .int r14), (0, .ref (ly 0)), (1, .int a1), (2, .int a2), (3, .int a3), (6, .int v6_33)]) hx hb dX12_let_95 hl (by decide) rfl (fun ls hl => ?_)
                  obtain ⟨t18, et18⟩ : ∃ y : Int32, y = v6_33 + 1 := ⟨_, rfl⟩
                  replace hw := hw t18 et18
                  refine lv_iinc (v := t18) (lv' := [(6, .int t18), (5, .int v5_33), (4, .int v4_33), (7, .int r14), (0, .ref (ly 0)), (1, .int a1), (2, .int a2), (3, .int a3)]) hx hb dX12_let_97 hl (k := 7) rfl (by rw [et18]; rfl) (by decide) rfl (fun ls hl => ?_)
                  refine lv_goto (tgt := 33) hx hb dX12_let_100 (by decide) ?_
                  exact ih_33 v4_33 v5_33 t18 S15 _ _ ls hw hH (lv_sub hl [4, 5, 6, 7, 2, 1, 0] rfl)
                · replace hw := hw.2 hc17
                  refine lv_iload hx hb dX12_let_88 (lv_at hl 1 rfl) ?_
                  refine lv_goto (tgt := 95) hx hb dX12_let_90 (by decide) ?_
                  refine lv_istore (lv' := [(5, .int r14), (4, .int v4_33), (7, .int r14), (0, .ref (ly 0)), (1, .int a1), (2, .int a2), (3, .int a3), (6, .int v6_33)]) hx hb dX12_let_95 hl (by decide) rfl (fun ls hl => ?_)
                  obtain ⟨t19, et19⟩ : ∃ y : Int32, y = v6_33 + 1 := ⟨_, rfl⟩
                  replace hw := hw t19 et19
                  refine lv_iinc (v := t19) (lv' := [(6, .int t19), (5, .int r14), (4, .int v4_33), (7, .int r14), (0, .ref (ly 0)), (1, .int a1), (2, .int a2), (3, .int a3)]) hx hb dX12_let_97 hl (k := 7) rfl (by rw [et19]; rfl) (by decide) rfl (fun ls hl => ?_)
                  refine lv_goto (tgt := 33) hx hb dX12_let_100 (by decide) ?_
                  exact ih_33 v4_33 r14 t19 S15 _ _ ls hw hH (lv_sub hl [4, 5, 6, 7, 2, 1, 0] rfl)
              · replace hw := hw.2 hc16
                refine lv_iload hx hb dX12_let_72 (lv_at hl 7 rfl) ?_
                refine lv_goto (tgt := 79) hx hb dX12_let_74 (by decide) ?_
                refine lv_istore (lv' := [(4, .int v6_33), (7, .int r14), (0, .ref (ly 0)), (1, .int a1), (2, .int a2), (3, .int a3), (5, .int v5_33), (6, .int v6_33)]) hx hb dX12_let_79 hl (by decide) rfl (fun ls hl => ?_)
                refine lv_iload hx hb dX12_let_81 (lv_at hl 1 rfl) ?_
                refine lv_iload hx hb dX12_let_83 (lv_at hl 6 rfl) ?_
                refine lv_icmp_le (tgt := 93) hx hb dX12_let_85 (by decide) (fun hc20 => ?_) (fun hc20 => ?_)
                · replace hw := hw.1 hc20
                  refine lv_iload hx hb dX12_let_93 (lv_at hl 6 rfl) ?_
                  refine lv_istore (lv' := [(5, .int v5_33), (4, .int v6_33), (7, .int r14), (0, .ref (ly 0)), (1, .int a1), (2, .int a2), (3, .int a3), (6, .int v6_33)]) hx hb dX12_let_95 hl (by decide) rfl (fun ls hl => ?_)
                  obtain ⟨t21, et21⟩ : ∃ y : Int32, y = v6_33 + 1 := ⟨_, rfl⟩
                  replace hw := hw t21 et21
                  refine lv_iinc (v := t21) (lv' := [(6, .int t21), (5, .int v5_33), (4, .int v6_33), (7, .int r14), (0, .ref (ly 0)), (1, .int a1), (2, .int a2), (3, .int a3)]) hx hb dX12_let_97 hl (k := 7) rfl (by rw [et21]; rfl) (by decide) rfl (fun ls hl => ?_)
                  refine lv_goto (tgt := 33) hx hb dX12_let_100 (by decide) ?_
                  exact ih_33 v6_33 v5_33 t21 S15 _ _ ls hw hH (lv_sub hl [4, 5, 6, 7, 2, 1, 0] rfl)
                · replace hw := hw.2 hc20
                  refine lv_iload hx hb dX12_let_88 (lv_at hl 1 rfl) ?_
                  refine lv_goto (tgt := 95) hx hb dX12_let_90 (by decide) ?_
                  refine lv_istore (lv' := [(5, .int r14), (4, .int v6_33), (7, .int r14), (0, .ref (ly 0)), (1, .int a1), (2, .int a2), (3, .int a3), (6, .int v6_33)]) hx hb dX12_let_95 hl (by decide) rfl (fun ls hl => ?_)
                  obtain ⟨t22, et22⟩ : ∃ y : Int32, y = v6_33 + 1 := ⟨_, rfl⟩
                  replace hw := hw t22 et22
                  refine lv_iinc (v := t22) (lv' := [(6, .int t22), (5, .int r14), (4, .int v6_33), (7, .int r14), (0, .ref (ly 0)), (1, .int a1), (2, .int a2), (3, .int a3)]) hx hb dX12_let_97 hl (k := 7) rfl (by rw [et22]; rfl) (by decide) rfl (fun ls hl => ?_)
                  refine lv_goto (tgt := 33) hx hb dX12_let_100 (by decide) ?_
                  exact ih_33 v6_33 r14 t22 S15 _ _ ls hw hH (lv_sub hl [4, 5, 6, 7, 2, 1, 0] rfl)
        obtain ⟨m_33, hw⟩ := hw
        refine L_33 _ (fun e4_23 e5_24 e6_25 S26 H locs ls hw hH hl => ?_) m_33 (0 : Int32) (-1 : Int32) (0 : Int32) S7 _ _ ls hw hH (lv_sub hl [3, 4, 5, 6, 2, 1, 0] rfl)
        refine lv_iload hx hb dX12_let_103 (lv_at hl 4 rfl) ?_
        exact k_iret hx hb hr hlocks hK hN hH hw dX12_let_105
      · replace hw := hw.1 hc9
        refine lv_iconst (v := -1) hx hb dX12_let_22 (by decide +kernel) ?_
        exact k_iret hx hb hr hlocks hK hN hH hw dX12_let_23
def wj_X12_best_62 (a1 : Int32) (a2 : Int32) (a3 : Int32) (v4_42 : Int32) (v5_42 : Int32) (v7_42 : Int32) (B_42 : Int32 → Int32 → Int32 → St → Prop) (q0_62 : Int32) (S_62 : St) : Prop := wp_X12_cuts a1 v7_42 q0_62 S_62 (fun S14 => wp_X12_worthOf a1 a2 a3 S14 (fun r16 S15 => wp_X12_worthOf q0_62 a2 a3 S15 (fun r18 S17 => (∀ t19 : Int32, t19 = (r16 + r18) → (∀ S20 : St, S20 = sI S17 0 3 (0 : Int32) → ((t19 ≤ v5_42 → ((t19 ≤ v5_42 → (∀ t23 : Int32, t23 = v7_42 + 1 → B_42 v4_42 v5_42 t23 S20)) ∧ (¬ t19 ≤ v5_42 → (∀ t24 : Int32, t24 = v7_42 + 1 → B_42 v4_42 t19 t24 S20)))) ∧ (¬ t19 ≤ v5_42 → ((t19 ≤ v5_42 → (∀ t26 : Int32, t26 = v7_42 + 1 → B_42 v7_42 v5_42 t26 S20)) ∧ (¬ t19 ≤ v5_42 → (∀ t27 : Int32, t27 = v7_42 + 1 → B_42 v7_42 t19 t27 S20))))))))))
def wl_X12_best_42 (a1 : Int32) (a2 : Int32) (a3 : Int32) (r11 : Int32) (K_42 : Int32 → Int32 → Int32 → St → Prop) : Nat → Int32 → Int32 → Int32 → St → Prop
  | 0, _, _, _, _ => False
  | fu_42 + 1, v4_42, v5_42, v7_42, S_42 => ((r11 ≤ v7_42 → K_42 v4_42 v5_42 v7_42 S_42) ∧ (¬ r11 ≤ v7_42 → wp_X12_lends S_42 (fun S13 => ((a1 = 0 → wj_X12_best_62 a1 a2 a3 v4_42 v5_42 v7_42 (fun b0 b1 b2 b => wl_X12_best_42 a1 a2 a3 r11 K_42 fu_42 b0 b1 b2 b) (1 : Int32) S13) ∧ (¬ a1 = 0 → wj_X12_best_62 a1 a2 a3 v4_42 v5_42 v7_42 (fun b0 b1 b2 b => wl_X12_best_42 a1 a2 a3 r11 K_42 fu_42 b0 b1 b2 b) (0 : Int32) S13)))))
def wp_X12_best (a1 : Int32) (a2 : Int32) (a3 : Int32) (S : St) (Q : Int32 → St → Prop) : Prop := wp_X12_isPane a1 S (fun r2 S1 => ((r2 = 0 → Q (-1 : Int32) S1) ∧ (¬ r2 = 0 → wp_X12_isLooker a2 S1 (fun r5 S4 => ((r5 = 0 → Q (-1 : Int32) S4) ∧ (¬ r5 = 0 → wp_X12_isLong a3 S4 (fun r8 S7 => ((r8 = 0 → Q (-1 : Int32) S7) ∧ (¬ r8 = 0 → wp_X12_its a1 (1 : Int32) S7 (fun r11 S10 => (∃ m_42 : Nat, wl_X12_best_42 a1 a2 a3 r11 (fun e4_29 e5_30 e7_31 S32 => Q e4_29 S32) m_42 (-3 : Int32) (-1 : Int32) (1 : Int32) S10)))))))))))
set_option maxHeartbeats 4000000 in
set_option maxRecDepth 100000 in
theorem c_X12_best (l : Launch) (D : va_G) (kA : Nat → ClassId) (ly : Nat → Nat) (n : List Nat) (hn : ∀ c, c < 20 → c ∈ n) (A : Nat → Prop) (a1 : Int32) (a2 : Int32) (a3 : Int32) : Ci l yX12_best wsX12_best 4 93 (Gp D (Er kA ly) ly n A kA) A [.ref (ly 0), .int a1, .int a2, .int a3] (wp_X12_best a1 a2 a3) := by
  intro S Q
  refine Met.ofW (cc := cX12_best) (maxL := 10) (ret := (some .int)) (by decide) rfl ?_
  intro p e s m args below meth c s₁ B hml hv
  obtain ⟨rfl, ⟨hP, hD, hK, hN⟩, hw⟩ := hv
  have hx := B.exec
  have hb := B.bytes
  have hr := B.returns
  have hts := atoms_spec (ws := wsX12_best) B.pre
  have hown : s.vm.findClass RX12 = some m.cls := findClass_of_methodNamed B.named
  have hlocks := B.notSynchronized
  have hH : Hp D (Er kA ly) ly n A s.heap S s.heap [] := ⟨hP, hD, va_S.rf⟩
  have hiX12 : ∀ w ∈ u_ws RX12 TX12 39, w ∈ wsX12_best := by decide +kernel
  have lk0 := hts (.fieldLink RX12 76 "SlowPanesModel" "at" "I") (by decide +kernel)
  have hl := lv_entry ([.ref (ly 0), .int a1, .int a2, .int a3]) (n := 10) (Nat.le_of_ble_eq_true rfl)
  rw [lg_entry_eq]
  generalize (lg_sl ([.ref (ly 0), .int a1, .int a2, .int a3]) ++ List.replicate (10 - (lg_sl ([.ref (ly 0), .int a1, .int a2, .int a3])).length) Slot.unset).toArray = ls at hl ⊢
  have hl : lv_has ls 10 [(0, .ref (ly 0)), (1, .int a1), (2, .int a2), (3, .int a3)] := hl
  rw [wp_X12_best] at hw
  refine lv_aload_n hx hb dX12_best_0 rfl (lv_at hl 0 rfl) ?_
  refine lv_iload_n hx hb dX12_best_1 rfl (lv_at hl 1 rfl) ?_
  refine k_afti (va_runV (As := [.int a1]) (rest := []) ⟨hx, hb, hml, hown, hts⟩ (c_X12_isPane l D kA ly n hn A a1 S _) (cwV 1 hts gX12_best_X12_isPane rfl rfl rfl (by decide +kernel) ⟨(Nat.le_of_ble_eq_true rfl), (Nat.le_of_ble_eq_true rfl)⟩) ⟨k_blind, (k_recv hK hH (hn _ (by decide)) Er_0 rfl), k_pre hK hN hH hw⟩ rfl rfl hl.1 rfl (lv_room (Nat.le_of_ble_eq_true rfl)) dX12_best_2 ⟨Nat.le_refl _, Nat.le_refl _⟩) hH (fun r2 S1 H locs hw hH => ?_)
  refine lv_if_eq (tgt := 22) hx hb dX12_best_5 (by decide) (fun hc3 => ?_) (fun hc3 => ?_)
  · replace hw := hw.1 hc3
    refine lv_iconst (v := -1) hx hb dX12_best_22 (by decide +kernel) ?_
    exact k_iret hx hb hr hlocks hK hN hH hw dX12_best_23
  · replace hw := hw.2 hc3
    refine lv_iload_n hx hb dX12_best_8 rfl (lv_at hl 2 rfl) ?_
    refine k_afti (va_runS (As := [.int a2]) (rest := []) ⟨hx, hb, hml, hown, hts⟩ (c_X12_isLooker l D kA ly n hn A a2 S1 _) (va_cwS 1 hts gX12_best_X12_isLooker rfl rfl rfl (by decide +kernel) ⟨(Nat.le_of_ble_eq_true rfl), (Nat.le_of_ble_eq_true rfl)⟩) ⟨k_blind, k_pre hK hN hH hw⟩ rfl rfl hl.1 rfl (lv_room (Nat.le_of_ble_eq_true rfl)) dX12_best_9 ⟨Nat.le_refl _, Nat.le_refl _⟩) hH (fun r5 S4 H locs hw hH => ?_)
    refine lv_if_eq (tgt := 22) hx hb dX12_best_12 (by decide) (fun hc6 => ?_) (fun hc6 => ?_)
    · replace hw := hw.1 hc6
      refine lv_iconst (v := -1) hx hb dX12_best_22 (by decide +kernel) ?_
      exact k_iret hx hb hr hlocks hK hN hH hw dX12_best_23
    · replace hw := hw.2 hc6
      refine lv_iload_n hx hb dX12_best_15 rfl (lv_at hl 3 rfl) ?_
      refine k_afti (va_runS (As := [.int a3]) (rest := []) ⟨hx, hb, hml, hown, hts⟩ (c_X12_isLong l D kA ly n hn A a3 S4 _) (va_cwS 1 hts gX12_best_X12_isLong rfl rfl rfl (by decide +kernel) ⟨(Nat.le_of_ble_eq_true rfl), (Nat.le_of_ble_eq_true rfl)⟩) ⟨k_blind, k_pre hK hN hH hw⟩ rfl rfl hl.1 rfl (lv_room (Nat.le_of_ble_eq_true rfl)) dX12_best_16 ⟨Nat.le_refl _, Nat.le_refl _⟩) hH (fun r8 S7 H locs hw hH => ?_)
      refine lv_if_ne (tgt := 24) hx hb dX12_best_19 (by decide) (fun hc9 => ?_) (fun hc9 => ?_)
      · replace hw := hw.2 hc9
        refine lv_bipush (v := -3) hx hb dX12_best_24 (by decide +kernel) ?_
        refine lv_istore (lv' := [(4, .int (-3 : Int32)), (0, .ref (ly 0)), (1, .int a1), (2, .int a2), (3, .int a3)]) hx hb dX12_best_26 hl (by decide) rfl (fun ls hl => ?_)
        refine lv_iconst (v := -1) hx hb dX12_best_28 (by decide +kernel) ?_
        refine lv_istore (lv' := [(5, .int (-1 : Int32)), (4, .int (-3 : Int32)), (0, .ref (ly 0)), (1, .int a1), (2, .int a2), (3, .int a3)]) hx hb dX12_best_29 hl (by decide) rfl (fun ls hl => ?_)
        refine lv_aload_n hx hb dX12_best_31 rfl (lv_at hl 2 rfl) ?_
        refine lv_iload_n hx hb dX12_best_32 rfl (lv_at hl 3 rfl) ?_
        refine lv_iconst (v := 1) hx hb dX12_best_33 (by decide +kernel) ?_
        refine k_afti (va_runV (As := [.int a1, .int (1 : Int32)]) (rest := []) ⟨hx, hb, hml, hown, hts⟩ (c_X12_its l D kA ly n hn A a1 (1 : Int32) S7 _) (cwV 2 hts gX12_best_X12_its rfl rfl rfl (by decide +kernel) ⟨(Nat.le_of_ble_eq_true rfl), (Nat.le_of_ble_eq_true rfl)⟩) ⟨k_blind, (k_recv hK hH (hn _ (by decide)) Er_0 rfl), k_pre hK hN hH hw⟩ rfl rfl hl.1 rfl (lv_room (Nat.le_of_ble_eq_true rfl)) dX12_best_34 ⟨Nat.le_refl _, Nat.le_refl _⟩) hH (fun r11 S10 H locs hw hH => ?_)
        refine lv_istore (lv' := [(6, .int r11), (5, .int (-1 : Int32)), (4, .int (-3 : Int32)), (0, .ref (ly 0)), (1, .int a1), (2, .int a2), (3, .int a3)]) hx hb dX12_best_37 hl (by decide) rfl (fun ls hl => ?_)
        refine lv_iconst (v := 1) hx hb dX12_best_39 (by decide +kernel) ?_
        refine lv_istore (lv' := [(7, .int (1 : Int32)), (6, .int r11), (5, .int (-1 : Int32)), (4, .int (-3 : Int32)), (0, .ref (ly 0)), (1, .int a1), (2, .int a2), (3, .int a3)]) hx hb dX12_best_40 hl (by decide) rfl (fun ls hl => ?_)
        have L_42 : ∀ (K_42 : Int32 → Int32 → Int32 → St → Prop) (hk_42 : ∀ (v4_42 : Int32) (v5_42 : Int32) (v7_42 : Int32) (S_42 : St) (H : Heap) (locs : List Loc) (ls : Array Slot), K_42 v4_42 v5_42 v7_42 S_42 → Hp D (Er kA ly) ly n A s.heap S_42 H locs → lv_has ls 10 [(0, .ref (ly 0)), (1, .int a1), (2, .int a2), (3, .int a3), (4, .int v4_42), (5, .int v5_42), (6, .int r11), (7, .int v7_42)] → W p l e (headSpec wsX12_best { frames := 4, cells := 0, slots := 0, locals := 93 }).room s m [.ref (ly 0), .int a1, .int a2, .int a3].toArray below meth c H locs 0 0 (MQ below (va_Qi Q (Gp D (Er kA ly) ly n A kA) A) [.ref (ly 0), .int a1, .int a2, .int a3].toArray s 0 0 A) (F0 m 134 ls [])) (fu_42 : Nat) (v4_42 : Int32) (v5_42 : Int32) (v7_42 : Int32) (S_42 : St) (H : Heap) (locs : List Loc) (ls : Array Slot), wl_X12_best_42 a1 a2 a3 r11 K_42 fu_42 v4_42 v5_42 v7_42 S_42 → Hp D (Er kA ly) ly n A s.heap S_42 H locs → lv_has ls 10 [(0, .ref (ly 0)), (1, .int a1), (2, .int a2), (3, .int a3), (4, .int v4_42), (5, .int v5_42), (6, .int r11), (7, .int v7_42)] → W p l e (headSpec wsX12_best { frames := 4, cells := 0, slots := 0, locals := 93 }).room s m [.ref (ly 0), .int a1, .int a2, .int a3].toArray below meth c H locs 0 0 (MQ below (va_Qi Q (Gp D (Er kA ly) ly n A kA) A) [.ref (ly 0), .int a1, .int a2, .int a3].toArray s 0 0 A) (F0 m 42 ls []) := by
          intro K_42 hk_42 fu_42
          induction fu_42 with
          | zero => intro v4_42 v5_42 v7_42 S_42 H locs ls hw hH hl; rw [wl_X12_best_42] at hw; exact hw.elim
          | succ fu_42 ih_42 =>
            intro v4_42 v5_42 v7_42 S_42 H locs ls hw hH hl
            rw [wl_X12_best_42] at hw
            refine lv_iload hx hb dX12_best_42 (lv_at hl 7 rfl) ?_
            refine lv_iload hx hb dX12_best_44 (lv_at hl 6 rfl) ?_
            refine lv_icmp_ge (tgt := 134) hx hb dX12_best_46 (by decide) (fun hc12 => ?_) (fun hc12 => ?_)
            · replace hw := hw.1 hc12
              exact hk_42 v4_42 v5_42 v7_42 S_42 _ _ ls hw hH (lv_sub hl [0, 1, 2, 3, 4, 5, 6, 7] rfl)
            · replace hw := hw.2 hc12
              refine lv_aload_n hx hb dX12_best_49 rfl (lv_at hl 0 rfl) ?_
              refine k_aftv (va_runV (As := []) (rest := []) ⟨hx, hb, hml, hown, hts⟩ (c_X12_lends l D kA ly n hn A S_42 _) (cwV 0 hts gX12_best_X12_lends rfl rfl rfl (by decide +kernel) ⟨(Nat.le_of_ble_eq_true rfl), (Nat.le_of_ble_eq_true rfl)⟩) ⟨k_blind, (k_recv hK hH (hn _ (by decide)) Er_0 rfl), k_pre hK hN hH hw⟩ rfl rfl hl.1 rfl (lv_room (Nat.le_of_ble_eq_true rfl)) dX12_best_50 ⟨Nat.le_refl _, Nat.le_refl _⟩) hH (fun S13 H locs hw hH => ?_)
              refine lv_iload_n hx hb dX12_best_53 rfl (lv_at hl 1 rfl) ?_
              have J_62 : ∀ (q0_62 : Int32) (S_62 : St) (H : Heap) (locs : List Loc) (ls : Array Slot), wj_X12_best_62 a1 a2 a3 v4_42 v5_42 v7_42 (fun b0 b1 b2 b => wl_X12_best_42 a1 a2 a3 r11 K_42 fu_42 b0 b1 b2 b) q0_62 S_62 → Hp D (Er kA ly) ly n A s.heap S_62 H locs → lv_has ls 10 [(0, .ref (ly 0)), (1, .int a1), (2, .int a2), (3, .int a3), (4, .int v4_42), (5, .int v5_42), (6, .int r11), (7, .int v7_42)] → W p l e (headSpec wsX12_best { frames := 4, cells := 0, slots := 0, locals := 93 }).room s m [.ref (ly 0), .int a1, .int a2, .int a3].toArray below meth c H locs 0 0 (MQ below (va_Qi Q (Gp D (Er kA ly) ly n A kA) A) [.ref (ly 0), .int a1, .int a2, .int a3].toArray s 0 0 A) (F0 m 62 ls [.int q0_62]) := by
                intro q0_62 S_62 H locs ls hw hH hl
                rw [wj_X12_best_62] at hw
                refine lv_istore (lv' := [(8, .int q0_62), (0, .ref (ly 0)), (1, .int a1), (2, .int a2), (3, .int a3), (4, .int v4_42), (5, .int v5_42), (6, .int r11), (7, .int v7_42)]) hx hb dX12_best_62 hl (by decide) rfl (fun ls hl => ?_)
                refine lv_aload_n hx hb dX12_best_64 rfl (lv_at hl 1 rfl) ?_
                refine lv_iload_n hx hb dX12_best_65 rfl (lv_at hl 2 rfl) ?_
                refine lv_iload hx hb dX12_best_66 (lv_at hl 8 rfl) ?_
                refine lv_iload hx hb dX12_best_68 (lv_at hl 0 rfl) ?_
                refine k_aftv (va_runV (As := [.int a1, .int v7_42, .int q0_62]) (rest := []) ⟨hx, hb, hml, hown, hts⟩ (c_X12_cuts l D kA ly n hn A a1 v7_42 q0_62 S_62 _) (cwV 3 hts gX12_best_X12_cuts rfl rfl rfl (by decide +kernel) ⟨(Nat.le_of_ble_eq_true rfl), (Nat.le_of_ble_eq_true rfl)⟩) ⟨k_blind, (k_recv hK hH (hn _ (by decide)) Er_0 rfl), k_pre hK hN hH hw⟩ rfl rfl hl.1 rfl (lv_room (Nat.le_of_ble_eq_true rfl)) dX12_best_70 ⟨Nat.le_refl _, Nat.le_refl _⟩) hH (fun S14 H locs hw hH => ?_)
                refine lv_aload_n hx hb dX12_best_73 rfl (lv_at hl 1 rfl) ?_
                refine lv_iload_n hx hb dX12_best_74 rfl (lv_at hl 2 rfl) ?_
                refine lv_iload_n hx hb dX12_best_75 rfl (lv_at hl 3 rfl) ?_
                refine lv_iload_n hx hb dX12_best_76 rfl (lv_at hl 4 rfl) ?_
                refine k_afti (va_runV (As := [.int a1, .int a2, .int a3]) (rest := []) ⟨hx, hb, hml, hown, hts⟩ (c_X12_worthOf l D kA ly n hn A a1 a2 a3 S14 _) (cwV 3 hts gX12_best_X12_worthOf rfl rfl rfl (by decide +kernel) ⟨(Nat.le_of_ble_eq_true rfl), (Nat.le_of_ble_eq_true rfl)⟩) ⟨k_blind, (k_recv hK hH (hn _ (by decide)) Er_0 rfl), k_pre hK hN hH hw⟩ rfl rfl hl.1 rfl (lv_room (Nat.le_of_ble_eq_true rfl)) dX12_best_77 ⟨Nat.le_refl _, Nat.le_refl _⟩) hH (fun r16 S15 H locs hw hH => ?_)
                refine lv_aload_n hx hb dX12_best_80 rfl (lv_at hl 1 rfl) ?_
                refine lv_iload hx hb dX12_best_81 (lv_at hl 0 rfl) ?_
                refine lv_iload_n hx hb dX12_best_83 rfl (lv_at hl 3 rfl) ?_
                refine lv_iload_n hx hb dX12_best_84 rfl (lv_at hl 4 rfl) ?_
                refine k_afti (va_runV (As := [.int q0_62, .int a2, .int a3]) (rest := [.int r16]) ⟨hx, hb, hml, hown, hts⟩ (c_X12_worthOf l D kA ly n hn A q0_62 a2 a3 S15 _) (cwV 3 hts gX12_best_X12_worthOf rfl rfl rfl (by decide +kernel) ⟨(Nat.le_of_ble_eq_true rfl), (Nat.le_of_ble_eq_true rfl)⟩) ⟨k_blind, (k_recv hK hH (hn _ (by decide)) Er_0 rfl), k_pre hK hN hH hw⟩ rfl rfl hl.1 rfl (lv_room (Nat.le_of_ble_eq_true rfl)) dX12_best_85 ⟨Nat.le_refl _, Nat.le_refl _⟩) hH (fun r18 S17 H locs hw hH => ?_)
                refine lv_iadd hx hb dX12_best_88 ?_
                refine lv_topi (fun t19 et19 => ?_)
                replace hw := hw t19 et19
                refine lv_istore (lv' := [(9, .int t19), (8, .int q0_62), (0, .ref (ly 0)), (1, .int a1), (2, .int a2), (3, .int a3), (4, .int v4_42), (5, .int v5_42), (6, .int r11), (7, .int v7_42)]) hx hb dX12_best_89 hl (by decide) rfl (fun ls hl => ?_)
                refine lv_aload_n hx hb dX12_best_91 rfl (lv_at hl 2 rfl) ?_
                refine lv_iconst (v := 0) hx hb dX12_best_92 (by decide +kernel) ?_
                refine pf_r_3 hx hb hts hiX12 hown hK hn hH lk0 dX12_best_93 (fun S20 H locs eS20 hH => ?_)
                replace hw := hw S20 eS20
                refine lv_iload hx hb dX12_best_96 (lv_at hl 0 rfl) ?_
                refine lv_iload hx hb dX12_best_98 (lv_at hl 7 rfl) ?_
                refine lv_icmp_le (tgt := 108) hx hb dX12_best_100 (by decide) (fun hc21 => ?_) (fun hc21 => ?_)
                · replace hw := hw.1 hc21
                  refine lv_iload hx hb dX12_best_108 (lv_at hl 6 rfl) ?_
                  refine lv_istore (lv' := [(4, .int v4_42), (9, .int t19), (8, .int q0_62), (0, .ref (ly 0)), (1, .int a1), (2, .int a2), (3, .int a3), (5, .int v5_42), (6, .int r11), (7, .int v7_42)]) hx hb dX12_best_110 hl (by decide) rfl (fun ls hl => ?_)
                  refine lv_iload hx hb dX12_best_112 (lv_at hl 1 rfl) ?_
                  refine lv_iload hx hb dX12_best_114 (lv_at hl 7 rfl) ?_
                  refine lv_icmp_le (tgt := 124) hx hb dX12_best_116 (by decide) (fun hc22 => ?_) (fun hc22 => ?_)
                  · replace hw := hw.1 hc22
                    refine lv_iload hx hb dX12_best_124 (lv_at hl 7 rfl) ?_
                    refine lv_istore (lv' := [(5, .int v5_42), (4, .int v4_42), (9, .int t19), (8, .int q0_62), (0, .ref (ly 0)), (1, .int a1), (2, .int a2), (3, .int a3), (6, .int r11), (7, .int v7_42)]) hx hb dX12_best_126 hl (by decide) rfl (fun ls hl => ?_)
                    obtain ⟨t23, et23⟩ : ∃ y : Int32, y = v7_42 + 1 := ⟨_, rfl⟩
                    replace hw := hw t23 et23
                    refine lv_iinc (v := t23) (lv' := [(7, .int t23), (5, .int v5_42), (4, .int v4_42), (9, .int t19), (8, .int q0_62), (0, .ref (ly 0)), (1, .int a1), (2, .int a2), (3, .int a3), (6, .int r11)]) hx hb dX12_best_128 hl (k := 9) rfl (by rw [et23]; rfl) (by decide) rfl (fun ls hl => ?_)
                    refine lv_goto (tgt := 42) hx hb dX12_best_131 (by decide) ?_
                    exact ih_42 v4_42 v5_42 t23 S20 _ _ ls hw hH (lv_sub hl [5, 6, 7, 8, 2, 1, 9, 0] rfl)
                  · replace hw := hw.2 hc22
                    refine lv_iload hx hb dX12_best_119 (lv_at hl 1 rfl) ?_
                    refine lv_goto (tgt := 126) hx hb dX12_best_121 (by decide) ?_
                    refine lv_istore (lv' := [(5, .int t19), (4, .int v4_42), (9, .int t19), (8, .int q0_62), (0, .ref (ly 0)), (1, .int a1), (2, .int a2), (3, .int a3), (6, .int r11), (7, .int v7_42)]) hx hb dX12_best_126 hl (by decide) rfl (fun ls hl => ?_)
                    obtain ⟨t24, et24⟩ : ∃ y : Int32, y = v7_42 + 1 := ⟨_, rfl⟩
                    replace hw := hw t24 et24
                    refine lv_iinc (v := t24) (lv' := [(7, .int t24), (5, .int t19), (4, .int v4_42), (9, .int t19), (8, .int q0_62), (0, .ref (ly 0)), (1, .int a1), (2, .int a2), (3, .int a3), (6, .int r11)]) hx hb dX12_best_128 hl (k := 9) rfl (by rw [et24]; rfl) (by decide) rfl (fun ls hl => ?_)
                    refine lv_goto (tgt := 42) hx hb dX12_best_131 (by decide) ?_
                    exact ih_42 v4_42 t19 t24 S20 _ _ ls hw hH (lv_sub hl [5, 6, 7, 8, 2, 1, 9, 0] rfl)
                · replace hw := hw.2 hc21
                  refine lv_iload hx hb dX12_best_103 (lv_at hl 9 rfl) ?_
                  refine lv_goto (tgt := 110) hx hb dX12_best_105 (by decide) ?_
                  refine lv_istore (lv' := [(4, .int v7_42), (9, .int t19), (8, .int q0_62), (0, .ref (ly 0)), (1, .int a1), (2, .int a2), (3, .int a3), (5, .int v5_42), (6, .int r11), (7, .int v7_42)]) hx hb dX12_best_110 hl (by decide) rfl (fun ls hl => ?_)
                  refine lv_iload hx hb dX12_best_112 (lv_at hl 1 rfl) ?_
                  refine lv_iload hx hb dX12_best_114 (lv_at hl 7 rfl) ?_
                  refine lv_icmp_le (tgt := 124) hx hb dX12_best_116 (by decide) (fun hc25 => ?_) (fun hc25 => ?_)
                  · replace hw := hw.1 hc25
                    refine lv_iload hx hb dX12_best_124 (lv_at hl 7 rfl) ?_
                    refine lv_istore (lv' := [(5, .int v5_42), (4, .int v7_42), (9, .int t19), (8, .int q0_62), (0, .ref (ly 0)), (1, .int a1), (2, .int a2), (3, .int a3), (6, .int r11), (7, .int v7_42)]) hx hb dX12_best_126 hl (by decide) rfl (fun ls hl => ?_)
                    obtain ⟨t26, et26⟩ : ∃ y : Int32, y = v7_42 + 1 := ⟨_, rfl⟩
                    replace hw := hw t26 et26
                    refine lv_iinc (v := t26) (lv' := [(7, .int t26), (5, .int v5_42), (4, .int v7_42), (9, .int t19), (8, .int q0_62), (0, .ref (ly 0)), (1, .int a1), (2, .int a2), (3, .int a3), (6, .int r11)]) hx hb dX12_best_128 hl (k := 9) rfl (by rw [et26]; rfl) (by decide) rfl (fun ls hl => ?_)
                    refine lv_goto (tgt := 42) hx hb dX12_best_131 (by decide) ?_
                    exact ih_42 v7_42 v5_42 t26 S20 _ _ ls hw hH (lv_sub hl [5, 6, 7, 8, 2, 1, 9, 0] rfl)
                  · replace hw := hw.2 hc25
                    refine lv_iload hx hb dX12_best_119 (lv_at hl 1 rfl) ?_
                    refine lv_goto (tgt := 126) hx hb dX12_best_121 (by decide) ?_
                    refine lv_istore (lv' := [(5, .int t19), (4, .int v7_42), (9, .int t19), (8, .int q0_62), (0, .ref (ly 0)), (1, .int a1), (2, .int a2), (3, .int a3), (6, .int r11), (7, .int v7_42)]) hx hb dX12_best_126 hl (by decide) rfl (fun ls hl => ?_)
                    obtain ⟨t27, et27⟩ : ∃ y : Int32, y = v7_42 + 1 := ⟨_, rfl⟩
                    replace hw := hw t27 et27
                    refine lv_iinc (v := t27) (lv' := [(7, .int t27), (5, .int t19), (4, .int v7_42), (9, .int t19), (8, .int q0_62), (0, .ref (ly 0)), (1, .int a1), (2, .int a2), (3, .int a3), (6, .int r11)]) hx hb dX12_best_128 hl (k := 9) rfl (by rw [et27]; rfl) (by decide) rfl (fun ls hl => ?_)
                    refine lv_goto (tgt := 42) hx hb dX12_best_131 (by decide) ?_
                    exact ih_42 v7_42 t19 t27 S20 _ _ ls hw hH (lv_sub hl [5, 6, 7, 8, 2, 1, 9, 0] rfl)
              refine lv_if_ne (tgt := 61) hx hb dX12_best_54 (by decide) (fun hc28 => ?_) (fun hc28 => ?_)
              · replace hw := hw.2 hc28
                refine lv_iconst (v := 0) hx hb dX12_best_61 (by decide +kernel) ?_
                exact J_62 (0 : Int32) S13 _ _ ls hw hH (lv_sub hl [0, 1, 2, 3, 4, 5, 6, 7] rfl)
              · replace hw := hw.1 hc28
                refine lv_iconst (v := 1) hx hb dX12_best_57 (by decide +kernel) ?_
                refine lv_goto (tgt := 62) hx hb dX12_best_58 (by decide) ?_
                exact J_62 (1 : Int32) S13 _ _ ls hw hH (lv_sub hl [0, 1, 2, 3, 4, 5, 6, 7] rfl)
        obtain ⟨m_42, hw⟩ := hw
        refine L_42 _ (fun e4_29 e5_30 e7_31 S32 H locs ls hw hH hl => ?_) m_42 (-3 : Int32) (-1 : Int32) (1 : Int32) S10 _ _ ls hw hH (lv_sub hl [4, 5, 6, 7, 3, 2, 1, 0] rfl)
        refine lv_iload hx hb dX12_best_134 (lv_at hl 4 rfl) ?_
        exact k_iret hx hb hr hlocks hK hN hH hw dX12_best_136
      · replace hw := hw.1 hc9
        refine lv_iconst (v := -1) hx hb dX12_best_22 (by decide +kernel) ?_
        exact k_iret hx hb hr hlocks hK hN hH hw dX12_best_23
def wp_X12_turned (a1 : Int32) (a2 : Int32) (a3 : Int32) (S : St) (Q : Int32 → St → Prop) : Prop := wp_X12_isPane a1 S (fun r2 S1 => ((r2 = 0 → Q (-1 : Int32) S1) ∧ (¬ r2 = 0 → wp_X12_isLooker a2 S1 (fun r5 S4 => ((r5 = 0 → Q (-1 : Int32) S4) ∧ (¬ r5 = 0 → wp_X12_isLong a3 S4 (fun r8 S7 => ((r8 = 0 → Q (-1 : Int32) S7) ∧ (¬ r8 = 0 → wp_X12_worth a1 a2 a3 S7 (fun r11 S10 => wp_X12_lends S10 (fun S12 => wp_X12_turns a1 S12 (fun S13 => wp_X12_worthOf a1 a2 a3 S13 (fun r15 S14 => (∀ S16 : St, S16 = sI S14 0 3 (0 : Int32) → Q (((100000 : Int32) + r15) - r11) S16))))))))))))))
set_option maxHeartbeats 4000000 in
set_option maxRecDepth 100000 in
theorem c_X12_turned (l : Launch) (D : va_G) (kA : Nat → ClassId) (ly : Nat → Nat) (n : List Nat) (hn : ∀ c, c < 20 → c ∈ n) (A : Nat → Prop) (a1 : Int32) (a2 : Int32) (a3 : Int32) : Ci l yX12_turned wsX12_turned 5 117 (Gp D (Er kA ly) ly n A kA) A [.ref (ly 0), .int a1, .int a2, .int a3] (wp_X12_turned a1 a2 a3) := by
  intro S Q
  refine Met.ofW (cc := cX12_turned) (maxL := 6) (ret := (some .int)) (by decide) rfl ?_
  intro p e s m args below meth c s₁ B hml hv
  obtain ⟨rfl, ⟨hP, hD, hK, hN⟩, hw⟩ := hv
  have hx := B.exec
  have hb := B.bytes
  have hr := B.returns
  have hts := atoms_spec (ws := wsX12_turned) B.pre
  have hown : s.vm.findClass RX12 = some m.cls := findClass_of_methodNamed B.named
  have hlocks := B.notSynchronized
  have hH : Hp D (Er kA ly) ly n A s.heap S s.heap [] := ⟨hP, hD, va_S.rf⟩
  have hiX12 : ∀ w ∈ u_ws RX12 TX12 39, w ∈ wsX12_turned := by decide +kernel
  have lk0 := hts (.fieldLink RX12 76 "SlowPanesModel" "at" "I") (by decide +kernel)
  have lk1 := hts (.constant RX12 260 (100000)) (by decide +kernel)
  have hl := lv_entry ([.ref (ly 0), .int a1, .int a2, .int a3]) (n := 6) (Nat.le_of_ble_eq_true rfl)
  rw [lg_entry_eq]
  generalize (lg_sl ([.ref (ly 0), .int a1, .int a2, .int a3]) ++ List.replicate (6 - (lg_sl ([.ref (ly 0), .int a1, .int a2, .int a3])).length) Slot.unset).toArray = ls at hl ⊢
  have hl : lv_has ls 6 [(0, .ref (ly 0)), (1, .int a1), (2, .int a2), (3, .int a3)] := hl
  rw [wp_X12_turned] at hw
  refine lv_aload_n hx hb dX12_turned_0 rfl (lv_at hl 0 rfl) ?_
  refine lv_iload_n hx hb dX12_turned_1 rfl (lv_at hl 1 rfl) ?_
  refine k_afti (va_runV (As := [.int a1]) (rest := []) ⟨hx, hb, hml, hown, hts⟩ (c_X12_isPane l D kA ly n hn A a1 S _) (cwV 1 hts gX12_turned_X12_isPane rfl rfl rfl (by decide +kernel) ⟨(Nat.le_of_ble_eq_true rfl), (Nat.le_of_ble_eq_true rfl)⟩) ⟨k_blind, (k_recv hK hH (hn _ (by decide)) Er_0 rfl), k_pre hK hN hH hw⟩ rfl rfl hl.1 rfl (lv_room (Nat.le_of_ble_eq_true rfl)) dX12_turned_2 ⟨Nat.le_refl _, Nat.le_refl _⟩) hH (fun r2 S1 H locs hw hH => ?_)
  refine lv_if_eq (tgt := 22) hx hb dX12_turned_5 (by decide) (fun hc3 => ?_) (fun hc3 => ?_)
  · replace hw := hw.1 hc3
    refine lv_iconst (v := -1) hx hb dX12_turned_22 (by decide +kernel) ?_
    exact k_iret hx hb hr hlocks hK hN hH hw dX12_turned_23
  · replace hw := hw.2 hc3
    refine lv_iload_n hx hb dX12_turned_8 rfl (lv_at hl 2 rfl) ?_
    refine k_afti (va_runS (As := [.int a2]) (rest := []) ⟨hx, hb, hml, hown, hts⟩ (c_X12_isLooker l D kA ly n hn A a2 S1 _) (va_cwS 1 hts gX12_turned_X12_isLooker rfl rfl rfl (by decide +kernel) ⟨(Nat.le_of_ble_eq_true rfl), (Nat.le_of_ble_eq_true rfl)⟩) ⟨k_blind, k_pre hK hN hH hw⟩ rfl rfl hl.1 rfl (lv_room (Nat.le_of_ble_eq_true rfl)) dX12_turned_9 ⟨Nat.le_refl _, Nat.le_refl _⟩) hH (fun r5 S4 H locs hw hH => ?_)
    refine lv_if_eq (tgt := 22) hx hb dX12_turned_12 (by decide) (fun hc6 => ?_) (fun hc6 => ?_)
    · replace hw := hw.1 hc6
      refine lv_iconst (v := -1) hx hb dX12_turned_22 (by decide +kernel) ?_
      exact k_iret hx hb hr hlocks hK hN hH hw dX12_turned_23
    · replace hw := hw.2 hc6
      refine lv_iload_n hx hb dX12_turned_15 rfl (lv_at hl 3 rfl) ?_
      refine k_afti (va_runS (As := [.int a3]) (rest := []) ⟨hx, hb, hml, hown, hts⟩ (c_X12_isLong l D kA ly n hn A a3 S4 _) (va_cwS 1 hts gX12_turned_X12_isLong rfl rfl rfl (by decide +kernel) ⟨(Nat.le_of_ble_eq_true rfl), (Nat.le_of_ble_eq_true rfl)⟩) ⟨k_blind, k_pre hK hN hH hw⟩ rfl rfl hl.1 rfl (lv_room (Nat.le_of_ble_eq_true rfl)) dX12_turned_16 ⟨Nat.le_refl _, Nat.le_refl _⟩) hH (fun r8 S7 H locs hw hH => ?_)
      refine lv_if_ne (tgt := 24) hx hb dX12_turned_19 (by decide) (fun hc9 => ?_) (fun hc9 => ?_)
      · replace hw := hw.2 hc9
        refine lv_aload_n hx hb dX12_turned_24 rfl (lv_at hl 0 rfl) ?_
        refine lv_iload_n hx hb dX12_turned_25 rfl (lv_at hl 1 rfl) ?_
        refine lv_iload_n hx hb dX12_turned_26 rfl (lv_at hl 2 rfl) ?_
        refine lv_iload_n hx hb dX12_turned_27 rfl (lv_at hl 3 rfl) ?_
        refine k_afti (va_runV (As := [.int a1, .int a2, .int a3]) (rest := []) ⟨hx, hb, hml, hown, hts⟩ (c_X12_worth l D kA ly n hn A a1 a2 a3 S7 _) (cwV 3 hts gX12_turned_X12_worth rfl rfl rfl (by decide +kernel) ⟨(Nat.le_of_ble_eq_true rfl), (Nat.le_of_ble_eq_true rfl)⟩) ⟨k_blind, (k_recv hK hH (hn _ (by decide)) Er_0 rfl), k_pre hK hN hH hw⟩ rfl rfl hl.1 rfl (lv_room (Nat.le_of_ble_eq_true rfl)) dX12_turned_28 ⟨Nat.le_refl _, Nat.le_refl _⟩) hH (fun r11 S10 H locs hw hH => ?_)
        refine lv_istore (lv' := [(4, .int r11), (0, .ref (ly 0)), (1, .int a1), (2, .int a2), (3, .int a3)]) hx hb dX12_turned_31 hl (by decide) rfl (fun ls hl => ?_)
        refine lv_aload_n hx hb dX12_turned_33 rfl (lv_at hl 1 rfl) ?_
        refine k_aftv (va_runV (As := []) (rest := []) ⟨hx, hb, hml, hown, hts⟩ (c_X12_lends l D kA ly n hn A S10 _) (cwV 0 hts gX12_turned_X12_lends rfl rfl rfl (by decide +kernel) ⟨(Nat.le_of_ble_eq_true rfl), (Nat.le_of_ble_eq_true rfl)⟩) ⟨k_blind, (k_recv hK hH (hn _ (by decide)) Er_0 rfl), k_pre hK hN hH hw⟩ rfl rfl hl.1 rfl (lv_room (Nat.le_of_ble_eq_true rfl)) dX12_turned_34 ⟨Nat.le_refl _, Nat.le_refl _⟩) hH (fun S12 H locs hw hH => ?_)
        refine lv_aload_n hx hb dX12_turned_37 rfl (lv_at hl 1 rfl) ?_
        refine lv_iload_n hx hb dX12_turned_38 rfl (lv_at hl 2 rfl) ?_
        refine k_aftv (va_runV (As := [.int a1]) (rest := []) ⟨hx, hb, hml, hown, hts⟩ (c_X12_turns l D kA ly n hn A a1 S12 _) (cwV 1 hts gX12_turned_X12_turns rfl rfl rfl (by decide +kernel) ⟨(Nat.le_of_ble_eq_true rfl), (Nat.le_of_ble_eq_true rfl)⟩) ⟨k_blind, (k_recv hK hH (hn _ (by decide)) Er_0 rfl), k_pre hK hN hH hw⟩ rfl rfl hl.1 rfl (lv_room (Nat.le_of_ble_eq_true rfl)) dX12_turned_39 ⟨Nat.le_refl _, Nat.le_refl _⟩) hH (fun S13 H locs hw hH => ?_)
        refine lv_aload_n hx hb dX12_turned_42 rfl (lv_at hl 1 rfl) ?_
        refine lv_iload_n hx hb dX12_turned_43 rfl (lv_at hl 2 rfl) ?_
        refine lv_iload_n hx hb dX12_turned_44 rfl (lv_at hl 3 rfl) ?_
        refine lv_iload_n hx hb dX12_turned_45 rfl (lv_at hl 4 rfl) ?_
        refine k_afti (va_runV (As := [.int a1, .int a2, .int a3]) (rest := []) ⟨hx, hb, hml, hown, hts⟩ (c_X12_worthOf l D kA ly n hn A a1 a2 a3 S13 _) (cwV 3 hts gX12_turned_X12_worthOf rfl rfl rfl (by decide +kernel) ⟨(Nat.le_of_ble_eq_true rfl), (Nat.le_of_ble_eq_true rfl)⟩) ⟨k_blind, (k_recv hK hH (hn _ (by decide)) Er_0 rfl), k_pre hK hN hH hw⟩ rfl rfl hl.1 rfl (lv_room (Nat.le_of_ble_eq_true rfl)) dX12_turned_46 ⟨Nat.le_refl _, Nat.le_refl _⟩) hH (fun r15 S14 H locs hw hH => ?_)
        refine lv_istore (lv' := [(5, .int r15), (4, .int r11), (0, .ref (ly 0)), (1, .int a1), (2, .int a2), (3, .int a3)]) hx hb dX12_turned_49 hl (by decide) rfl (fun ls hl => ?_)
        refine lv_aload_n hx hb dX12_turned_51 rfl (lv_at hl 2 rfl) ?_
        refine lv_iconst (v := 0) hx hb dX12_turned_52 (by decide +kernel) ?_
        refine pf_r_3 hx hb hts hiX12 hown hK hn hH lk0 dX12_turned_53 (fun S16 H locs eS16 hH => ?_)
        replace hw := hw S16 eS16
        refine lv_ldcw (v := 100000) hx hb hown lk1 dX12_turned_56 ?_
        refine lv_iload hx hb dX12_turned_59 (lv_at hl 0 rfl) ?_
        refine lv_iadd hx hb dX12_turned_61 ?_
        refine lv_iload hx hb dX12_turned_62 (lv_at hl 1 rfl) ?_
        refine lv_isub hx hb dX12_turned_64 ?_
        exact k_iret hx hb hr hlocks hK hN hH hw dX12_turned_65
      · replace hw := hw.1 hc9
        refine lv_iconst (v := -1) hx hb dX12_turned_22 (by decide +kernel) ?_
        exact k_iret hx hb hr hlocks hK hN hH hw dX12_turned_23
def wl_X12_will_36 (a1 : Int32) (a2 : Int32) (K_36 : Int32 → St → Prop) : Nat → Int32 → St → Prop
  | 0, _, _ => False
  | fu_36 + 1, v3_36, S_36 => ((a2 ≤ v3_36 → K_36 v3_36 S_36) ∧ (¬ a2 ≤ v3_36 → wp_X12_moves a1 v3_36 S_36 (fun S12 => (∀ t13 : Int32, t13 = v3_36 + 1 → wl_X12_will_36 a1 a2 K_36 fu_36 t13 S12))))
def wp_X12_will (a1 : Int32) (a2 : Int32) (S : St) (Q : Int32 → St → Prop) : Prop := wp_X12_isPane a1 S (fun r2 S1 => ((r2 = 0 → Q (-1 : Int32) S1) ∧ (¬ r2 = 0 → (vp_in (0 : Int32) 232 ∧ wp_X12_in a2 (gA S1 3 (0 : Int32).toNatClampNeg) (49 : Int32) S1 (fun r6 S5 => ((r6 = 0 → Q (-1 : Int32) S5) ∧ (¬ r6 = 0 → wp_X12_lends S5 (fun S8 => (vp_in (0 : Int32) 232 ∧ (∀ t10 : Int32, t10 = (gA S8 3 (0 : Int32).toNatClampNeg) → (∃ m_36 : Nat, wl_X12_will_36 a1 a2 (fun e3_14 S15 => wp_X12_shown a1 S15 (fun r17 S16 => (∀ S18 : St, S18 = sI S16 0 3 (0 : Int32) → Q r17 S18))) m_36 t10 S8)))))))))))
set_option maxHeartbeats 4000000 in
set_option maxRecDepth 100000 in
theorem c_X12_will (l : Launch) (D : va_G) (kA : Nat → ClassId) (ly : Nat → Nat) (n : List Nat) (hn : ∀ c, c < 20 → c ∈ n) (A : Nat → Prop) (a1 : Int32) (a2 : Int32) : Ci l yX12_will wsX12_will 3 66 (Gp D (Er kA ly) ly n A kA) A [.ref (ly 0), .int a1, .int a2] (wp_X12_will a1 a2) := by
  intro S Q
  refine Met.ofW (cc := cX12_will) (maxL := 4) (ret := (some .int)) (by decide) rfl ?_
  intro p e s m args below meth c s₁ B hml hv
  obtain ⟨rfl, ⟨hP, hD, hK, hN⟩, hw⟩ := hv
  have hx := B.exec
  have hb := B.bytes
  have hr := B.returns
  have hts := atoms_spec (ws := wsX12_will) B.pre
  have hown : s.vm.findClass RX12 = some m.cls := findClass_of_methodNamed B.named
  have hlocks := B.notSynchronized
  have hH : Hp D (Er kA ly) ly n A s.heap S s.heap [] := ⟨hP, hD, va_S.rf⟩
  have hiX12 : ∀ w ∈ u_ws RX12 TX12 39, w ∈ wsX12_will := by decide +kernel
  have lk0 := hts (.fieldLink RX12 16 "SlowPanesModel" "row" "[I") (by decide +kernel)
  have lk1 := hts (.fieldLink RX12 76 "SlowPanesModel" "at" "I") (by decide +kernel)
  have hl := lv_entry ([.ref (ly 0), .int a1, .int a2]) (n := 4) (Nat.le_of_ble_eq_true rfl)
  rw [lg_entry_eq]
  generalize (lg_sl ([.ref (ly 0), .int a1, .int a2]) ++ List.replicate (4 - (lg_sl ([.ref (ly 0), .int a1, .int a2])).length) Slot.unset).toArray = ls at hl ⊢
  have hl : lv_has ls 4 [(0, .ref (ly 0)), (1, .int a1), (2, .int a2)] := hl
  rw [wp_X12_will] at hw
  refine lv_aload_n hx hb dX12_will_0 rfl (lv_at hl 0 rfl) ?_
  refine lv_iload_n hx hb dX12_will_1 rfl (lv_at hl 1 rfl) ?_
  refine k_afti (va_runV (As := [.int a1]) (rest := []) ⟨hx, hb, hml, hown, hts⟩ (c_X12_isPane l D kA ly n hn A a1 S _) (cwV 1 hts gX12_will_X12_isPane rfl rfl rfl (by decide +kernel) ⟨(Nat.le_of_ble_eq_true rfl), (Nat.le_of_ble_eq_true rfl)⟩) ⟨k_blind, (k_recv hK hH (hn _ (by decide)) Er_0 rfl), k_pre hK hN hH hw⟩ rfl rfl hl.1 rfl (lv_room (Nat.le_of_ble_eq_true rfl)) dX12_will_2 ⟨Nat.le_refl _, Nat.le_refl _⟩) hH (fun r2 S1 H locs hw hH => ?_)
  refine lv_if_eq (tgt := 23) hx hb dX12_will_5 (by decide) (fun hc3 => ?_) (fun hc3 => ?_)
  · replace hw := hw.1 hc3
    refine lv_iconst (v := -1) hx hb dX12_will_23 (by decide +kernel) ?_
    exact k_iret hx hb hr hlocks hK hN hH hw dX12_will_24
  · replace hw := hw.2 hc3
    refine lv_iload_n hx hb dX12_will_8 rfl (lv_at hl 2 rfl) ?_
    refine lv_aload_n hx hb dX12_will_9 rfl (lv_at hl 0 rfl) ?_
    refine gf_r_2 hx hb hts hiX12 hown hK hn hH lk0 dX12_will_10 ?_
    refine lv_iconst (v := 0) hx hb dX12_will_13 (by decide +kernel) ?_
    obtain ⟨hi_4, hw⟩ := hw
    refine k_ild hx hb hK hH (hn _ (by decide)) Er_3 hi_4 dX12_will_14 ?_
    refine lv_bipush (v := 49) hx hb dX12_will_15 (by decide +kernel) ?_
    refine k_afti (va_runS (As := [.int a2, .int (gA S1 3 (0 : Int32).toNatClampNeg), .int (49 : Int32)]) (rest := []) ⟨hx, hb, hml, hown, hts⟩ (c_X12_in l D kA ly n hn A a2 (gA S1 3 (0 : Int32).toNatClampNeg) (49 : Int32) S1 _) (va_cwS 3 hts gX12_will_X12_in rfl rfl rfl (by decide +kernel) ⟨(Nat.le_of_ble_eq_true rfl), (Nat.le_of_ble_eq_true rfl)⟩) ⟨k_blind, k_pre hK hN hH hw⟩ rfl rfl hl.1 rfl (lv_room (Nat.le_of_ble_eq_true rfl)) dX12_will_17 ⟨Nat.le_refl _, Nat.le_refl _⟩) hH (fun r6 S5 H locs hw hH => ?_)
    refine lv_if_ne (tgt := 25) hx hb dX12_will_20 (by decide) (fun hc7 => ?_) (fun hc7 => ?_)
    · replace hw := hw.2 hc7
      refine lv_aload_n hx hb dX12_will_25 rfl (lv_at hl 0 rfl) ?_
      refine k_aftv (va_runV (As := []) (rest := []) ⟨hx, hb, hml, hown, hts⟩ (c_X12_lends l D kA ly n hn A S5 _) (cwV 0 hts gX12_will_X12_lends rfl rfl rfl (by decide +kernel) ⟨(Nat.le_of_ble_eq_true rfl), (Nat.le_of_ble_eq_true rfl)⟩) ⟨k_blind, (k_recv hK hH (hn _ (by decide)) Er_0 rfl), k_pre hK hN hH hw⟩ rfl rfl hl.1 rfl (lv_room (Nat.le_of_ble_eq_true rfl)) dX12_will_26 ⟨Nat.le_refl _, Nat.le_refl _⟩) hH (fun S8 H locs hw hH => ?_)
      refine lv_aload_n hx hb dX12_will_29 rfl (lv_at hl 0 rfl) ?_
      refine gf_r_2 hx hb hts hiX12 hown hK hn hH lk0 dX12_will_30 ?_
      refine lv_iconst (v := 0) hx hb dX12_will_33 (by decide +kernel) ?_
      obtain ⟨hi_9, hw⟩ := hw
      refine k_ild hx hb hK hH (hn _ (by decide)) Er_3 hi_9 dX12_will_34 ?_
      refine lv_topi (fun t10 et10 => ?_)
      replace hw := hw t10 et10
      refine lv_istore_n (lv' := [(3, .int t10), (0, .ref (ly 0)), (1, .int a1), (2, .int a2)]) hx hb dX12_will_35 rfl hl (by decide) rfl (fun ls hl => ?_)
      have L_36 : ∀ (K_36 : Int32 → St → Prop) (hk_36 : ∀ (v3_36 : Int32) (S_36 : St) (H : Heap) (locs : List Loc) (ls : Array Slot), K_36 v3_36 S_36 → Hp D (Er kA ly) ly n A s.heap S_36 H locs → lv_has ls 4 [(0, .ref (ly 0)), (1, .int a1), (2, .int a2), (3, .int v3_36)] → W p l e (headSpec wsX12_will { frames := 3, cells := 0, slots := 0, locals := 66 }).room s m [.ref (ly 0), .int a1, .int a2].toArray below meth c H locs 0 0 (MQ below (va_Qi Q (Gp D (Er kA ly) ly n A kA) A) [.ref (ly 0), .int a1, .int a2].toArray s 0 0 A) (F0 m 53 ls [])) (fu_36 : Nat) (v3_36 : Int32) (S_36 : St) (H : Heap) (locs : List Loc) (ls : Array Slot), wl_X12_will_36 a1 a2 K_36 fu_36 v3_36 S_36 → Hp D (Er kA ly) ly n A s.heap S_36 H locs → lv_has ls 4 [(0, .ref (ly 0)), (1, .int a1), (2, .int a2), (3, .int v3_36)] → W p l e (headSpec wsX12_will { frames := 3, cells := 0, slots := 0, locals := 66 }).room s m [.ref (ly 0), .int a1, .int a2].toArray below meth c H locs 0 0 (MQ below (va_Qi Q (Gp D (Er kA ly) ly n A kA) A) [.ref (ly 0), .int a1, .int a2].toArray s 0 0 A) (F0 m 36 ls []) := by
        intro K_36 hk_36 fu_36
        induction fu_36 with
        | zero => intro v3_36 S_36 H locs ls hw hH hl; rw [wl_X12_will_36] at hw; exact hw.elim
        | succ fu_36 ih_36 =>
          intro v3_36 S_36 H locs ls hw hH hl
          rw [wl_X12_will_36] at hw
          refine lv_iload_n hx hb dX12_will_36 rfl (lv_at hl 3 rfl) ?_
          refine lv_iload_n hx hb dX12_will_37 rfl (lv_at hl 2 rfl) ?_
          refine lv_icmp_ge (tgt := 53) hx hb dX12_will_38 (by decide) (fun hc11 => ?_) (fun hc11 => ?_)
          · replace hw := hw.1 hc11
            exact hk_36 v3_36 S_36 _ _ ls hw hH (lv_sub hl [0, 1, 2, 3] rfl)
          · replace hw := hw.2 hc11
            refine lv_aload_n hx hb dX12_will_41 rfl (lv_at hl 0 rfl) ?_
            refine lv_iload_n hx hb dX12_will_42 rfl (lv_at hl 1 rfl) ?_
            refine lv_iload_n hx hb dX12_will_43 rfl (lv_at hl 3 rfl) ?_
            refine k_aftv (va_runV (As := [.int a1, .int v3_36]) (rest := []) ⟨hx, hb, hml, hown, hts⟩ (c_X12_moves l D kA ly n hn A a1 v3_36 S_36 _) (cwV 2 hts gX12_will_X12_moves rfl rfl rfl (by decide +kernel) ⟨(Nat.le_of_ble_eq_true rfl), (Nat.le_of_ble_eq_true rfl)⟩) ⟨k_blind, (k_recv hK hH (hn _ (by decide)) Er_0 rfl), k_pre hK hN hH hw⟩ rfl rfl hl.1 rfl (lv_room (Nat.le_of_ble_eq_true rfl)) dX12_will_44 ⟨Nat.le_refl _, Nat.le_refl _⟩) hH (fun S12 H locs hw hH => ?_)
            obtain ⟨t13, et13⟩ : ∃ y : Int32, y = v3_36 + 1 := ⟨_, rfl⟩
            replace hw := hw t13 et13
            refine lv_iinc (v := t13) (lv' := [(3, .int t13), (0, .ref (ly 0)), (1, .int a1), (2, .int a2)]) hx hb dX12_will_47 hl (k := 3) rfl (by rw [et13]; rfl) (by decide) rfl (fun ls hl => ?_)
            refine lv_goto (tgt := 36) hx hb dX12_will_50 (by decide) ?_
            exact ih_36 t13 S12 _ _ ls hw hH (lv_sub hl [1, 2, 3, 0] rfl)
      obtain ⟨m_36, hw⟩ := hw
      refine L_36 _ (fun e3_14 S15 H locs ls hw hH hl => ?_) m_36 t10 S8 _ _ ls hw hH (lv_sub hl [1, 2, 3, 0] rfl)
      refine lv_aload_n hx hb dX12_will_53 rfl (lv_at hl 0 rfl) ?_
      refine lv_iload_n hx hb dX12_will_54 rfl (lv_at hl 1 rfl) ?_
      refine k_afti (va_runV (As := [.int a1]) (rest := []) ⟨hx, hb, hml, hown, hts⟩ (c_X12_shown l D kA ly n hn A a1 S15 _) (cwV 1 hts gX12_will_X12_shown rfl rfl rfl (by decide +kernel) ⟨(Nat.le_of_ble_eq_true rfl), (Nat.le_of_ble_eq_true rfl)⟩) ⟨k_blind, (k_recv hK hH (hn _ (by decide)) Er_0 rfl), k_pre hK hN hH hw⟩ rfl rfl hl.1 rfl (lv_room (Nat.le_of_ble_eq_true rfl)) dX12_will_55 ⟨Nat.le_refl _, Nat.le_refl _⟩) hH (fun r17 S16 H locs hw hH => ?_)
      refine lv_istore_n (lv' := [(3, .int r17), (0, .ref (ly 0)), (1, .int a1), (2, .int a2)]) hx hb dX12_will_58 rfl hl (by decide) rfl (fun ls hl => ?_)
      refine lv_aload_n hx hb dX12_will_59 rfl (lv_at hl 1 rfl) ?_
      refine lv_iconst (v := 0) hx hb dX12_will_60 (by decide +kernel) ?_
      refine pf_r_3 hx hb hts hiX12 hown hK hn hH lk1 dX12_will_61 (fun S18 H locs eS18 hH => ?_)
      replace hw := hw S18 eS18
      refine lv_iload_n hx hb dX12_will_64 rfl (lv_at hl 0 rfl) ?_
      exact k_iret hx hb hr hlocks hK hN hH hw dX12_will_65
    · replace hw := hw.1 hc7
      refine lv_iconst (v := -1) hx hb dX12_will_23 (by decide +kernel) ?_
      exact k_iret hx hb hr hlocks hK hN hH hw dX12_will_24
def wp_X12_seed (a1 : Int32) (S : St) (Q : Int32 → St → Prop) : Prop := (∀ t1 : Int32, t1 = (gI S 0 4) → (∀ S2 : St, S2 = sI S 0 4 a1 → Q t1 S2))
set_option maxHeartbeats 4000000 in
set_option maxRecDepth 100000 in
theorem c_X12_seed (l : Launch) (D : va_G) (kA : Nat → ClassId) (ly : Nat → Nat) (n : List Nat) (hn : ∀ c, c < 20 → c ∈ n) (A : Nat → Prop) (a1 : Int32) : Ci l yX12_seed wsX12_seed 0 0 (Gp D (Er kA ly) ly n A kA) A [.ref (ly 0), .int a1] (wp_X12_seed a1) := by
  intro S Q
  refine Met.ofW (cc := cX12_seed) (maxL := 3) (ret := (some .int)) (by decide) rfl ?_
  intro p e s m args below meth c s₁ B hml hv
  obtain ⟨rfl, ⟨hP, hD, hK, hN⟩, hw⟩ := hv
  have hx := B.exec
  have hb := B.bytes
  have hr := B.returns
  have hts := atoms_spec (ws := wsX12_seed) B.pre
  have hown : s.vm.findClass RX12 = some m.cls := findClass_of_methodNamed B.named
  have hlocks := B.notSynchronized
  have hH : Hp D (Er kA ly) ly n A s.heap S s.heap [] := ⟨hP, hD, va_S.rf⟩
  have hiX12 : ∀ w ∈ u_ws RX12 TX12 39, w ∈ wsX12_seed := by decide +kernel
  have lk0 := hts (.fieldLink RX12 19 "SlowPanesModel" "z" "I") (by decide +kernel)
  have hl := lv_entry ([.ref (ly 0), .int a1]) (n := 3) (Nat.le_of_ble_eq_true rfl)
  rw [lg_entry_eq]
  generalize (lg_sl ([.ref (ly 0), .int a1]) ++ List.replicate (3 - (lg_sl ([.ref (ly 0), .int a1])).length) Slot.unset).toArray = ls at hl ⊢
  have hl : lv_has ls 3 [(0, .ref (ly 0)), (1, .int a1)] := hl
  rw [wp_X12_seed] at hw
  refine lv_aload_n hx hb dX12_seed_0 rfl (lv_at hl 0 rfl) ?_
  refine gf_r_4 hx hb hts hiX12 hown hK hn hH lk0 dX12_seed_1 ?_
  refine lv_topi (fun t1 et1 => ?_)
  replace hw := hw t1 et1
  refine lv_istore_n (lv' := [(2, .int t1), (0, .ref (ly 0)), (1, .int a1)]) hx hb dX12_seed_4 rfl hl (by decide) rfl (fun ls hl => ?_)
  refine lv_aload_n hx hb dX12_seed_5 rfl (lv_at hl 1 rfl) ?_
  refine lv_iload_n hx hb dX12_seed_6 rfl (lv_at hl 2 rfl) ?_
  refine pf_r_4 hx hb hts hiX12 hown hK hn hH lk0 dX12_seed_7 (fun S2 H locs eS2 hH => ?_)
  replace hw := hw S2 eS2
  refine lv_iload_n hx hb dX12_seed_10 rfl (lv_at hl 0 rfl) ?_
  exact k_iret hx hb hr hlocks hK hN hH hw dX12_seed_11
def wp_X12_draw (a1 : Int32) (a2 : Int32) (S : St) (Q : Int32 → St → Prop) : Prop := wp_X12_isPlace a1 S (fun r2 S1 => ((r2 = 0 → Q (-1 : Int32) S1) ∧ (¬ r2 = 0 → wp_X12_isDay a2 S1 (fun r5 S4 => ((r5 = 0 → Q (-1 : Int32) S4) ∧ (¬ r5 = 0 → (∀ S7 : St, S7 = sI S4 0 4 (((gI S4 0 4) * (1103515245 : Int32)) + (12345 : Int32)) → (vp_in (((50 : Int32) * a1) + a2) 200 ∧ ∀ S9 : St, S9 = sA S7 1 (((50 : Int32) * a1) + a2).toNatClampNeg ((((gI S7 0 4).toUInt32 >>> ((16 : Int32).toUInt32 &&& Int32.toUInt32 31)).toInt32) - (((gI S7 0 4).toUInt32 >>> ((16 : Int32).toUInt32 &&& Int32.toUInt32 31)).toInt32) / (100 : Int32) * (100 : Int32)) → (vp_in (((50 : Int32) * a1) + a2) 200 ∧ Q (gA S9 1 (((50 : Int32) * a1) + a2).toNatClampNeg) S9)))))))))
set_option maxHeartbeats 4000000 in
set_option maxRecDepth 100000 in
theorem c_X12_draw (l : Launch) (D : va_G) (kA : Nat → ClassId) (ly : Nat → Nat) (n : List Nat) (hn : ∀ c, c < 20 → c ∈ n) (A : Nat → Prop) (a1 : Int32) (a2 : Int32) : Ci l yX12_draw wsX12_draw 2 42 (Gp D (Er kA ly) ly n A kA) A [.ref (ly 0), .int a1, .int a2] (wp_X12_draw a1 a2) := by
  intro S Q
  refine Met.ofW (cc := cX12_draw) (maxL := 3) (ret := (some .int)) (by decide) rfl ?_
  intro p e s m args below meth c s₁ B hml hv
  obtain ⟨rfl, ⟨hP, hD, hK, hN⟩, hw⟩ := hv
  have hx := B.exec
  have hb := B.bytes
  have hr := B.returns
  have hts := atoms_spec (ws := wsX12_draw) B.pre
  have hown : s.vm.findClass RX12 = some m.cls := findClass_of_methodNamed B.named
  have hlocks := B.notSynchronized
  have hH : Hp D (Er kA ly) ly n A s.heap S s.heap [] := ⟨hP, hD, va_S.rf⟩
  have hiX12 : ∀ w ∈ u_ws RX12 TX12 39, w ∈ wsX12_draw := by decide +kernel
  have lk0 := hts (.fieldLink RX12 19 "SlowPanesModel" "z" "I") (by decide +kernel)
  have lk1 := hts (.constant RX12 261 (1103515245)) (by decide +kernel)
  have lk2 := hts (.fieldLink RX12 7 "SlowPanesModel" "views" "[I") (by decide +kernel)
  have hl := lv_entry ([.ref (ly 0), .int a1, .int a2]) (n := 3) (Nat.le_of_ble_eq_true rfl)
  rw [lg_entry_eq]
  generalize (lg_sl ([.ref (ly 0), .int a1, .int a2]) ++ List.replicate (3 - (lg_sl ([.ref (ly 0), .int a1, .int a2])).length) Slot.unset).toArray = ls at hl ⊢
  have hl : lv_has ls 3 [(0, .ref (ly 0)), (1, .int a1), (2, .int a2)] := hl
  rw [wp_X12_draw] at hw
  refine lv_iload_n hx hb dX12_draw_0 rfl (lv_at hl 1 rfl) ?_
  refine k_afti (va_runS (As := [.int a1]) (rest := []) ⟨hx, hb, hml, hown, hts⟩ (c_X12_isPlace l D kA ly n hn A a1 S _) (va_cwS 1 hts gX12_draw_X12_isPlace rfl rfl rfl (by decide +kernel) ⟨(Nat.le_of_ble_eq_true rfl), (Nat.le_of_ble_eq_true rfl)⟩) ⟨k_blind, k_pre hK hN hH hw⟩ rfl rfl hl.1 rfl (lv_room (Nat.le_of_ble_eq_true rfl)) dX12_draw_1 ⟨Nat.le_refl _, Nat.le_refl _⟩) hH (fun r2 S1 H locs hw hH => ?_)
  refine lv_if_eq (tgt := 14) hx hb dX12_draw_4 (by decide) (fun hc3 => ?_) (fun hc3 => ?_)
  · replace hw := hw.1 hc3
    refine lv_iconst (v := -1) hx hb dX12_draw_14 (by decide +kernel) ?_
    exact k_iret hx hb hr hlocks hK hN hH hw dX12_draw_15
  · replace hw := hw.2 hc3
    refine lv_iload_n hx hb dX12_draw_7 rfl (lv_at hl 2 rfl) ?_
    refine k_afti (va_runS (As := [.int a2]) (rest := []) ⟨hx, hb, hml, hown, hts⟩ (c_X12_isDay l D kA ly n hn A a2 S1 _) (va_cwS 1 hts gX12_draw_X12_isDay rfl rfl rfl (by decide +kernel) ⟨(Nat.le_of_ble_eq_true rfl), (Nat.le_of_ble_eq_true rfl)⟩) ⟨k_blind, k_pre hK hN hH hw⟩ rfl rfl hl.1 rfl (lv_room (Nat.le_of_ble_eq_true rfl)) dX12_draw_8 ⟨Nat.le_refl _, Nat.le_refl _⟩) hH (fun r5 S4 H locs hw hH => ?_)
    refine lv_if_ne (tgt := 16) hx hb dX12_draw_11 (by decide) (fun hc6 => ?_) (fun hc6 => ?_)
    · replace hw := hw.2 hc6
      refine lv_aload_n hx hb dX12_draw_16 rfl (lv_at hl 0 rfl) ?_
      refine lv_aload_n hx hb dX12_draw_17 rfl (lv_at hl 0 rfl) ?_
      refine gf_r_4 hx hb hts hiX12 hown hK hn hH lk0 dX12_draw_18 ?_
      refine lv_ldcw (v := 1103515245) hx hb hown lk1 dX12_draw_21 ?_
      refine lv_imul hx hb dX12_draw_24 ?_
      refine lv_sipush (v := 12345) hx hb dX12_draw_25 (by decide +kernel) ?_
      refine lv_iadd hx hb dX12_draw_28 ?_
      refine pf_r_4 hx hb hts hiX12 hown hK hn hH lk0 dX12_draw_29 (fun S7 H locs eS7 hH => ?_)
      replace hw := hw S7 eS7
      refine lv_aload_n hx hb dX12_draw_32 rfl (lv_at hl 0 rfl) ?_
      refine gf_r_0 hx hb hts hiX12 hown hK hn hH lk2 dX12_draw_33 ?_
      refine lv_bipush (v := 50) hx hb dX12_draw_36 (by decide +kernel) ?_
      refine lv_iload_n hx hb dX12_draw_38 rfl (lv_at hl 1 rfl) ?_
      refine lv_imul hx hb dX12_draw_39 ?_
      refine lv_iload_n hx hb dX12_draw_40 rfl (lv_at hl 2 rfl) ?_
      refine lv_iadd hx hb dX12_draw_41 ?_
      refine lv_aload_n hx hb dX12_draw_42 rfl (lv_at hl 0 rfl) ?_
      refine gf_r_4 hx hb hts hiX12 hown hK hn hH lk0 dX12_draw_43 ?_
      refine lv_bipush (v := 16) hx hb dX12_draw_46 (by decide +kernel) ?_
      refine lv_iushr hx hb dX12_draw_48 rfl ?_
      refine lv_bipush (v := 100) hx hb dX12_draw_49 (by decide +kernel) ?_
      refine lv_irem hx hb dX12_draw_51 (by decide) ?_
      obtain ⟨hi_8, hw⟩ := hw
      refine k_ist hx hb hK hH (hn _ (by decide)) (fun _ => Er_1) hi_8 dX12_draw_52 (fun S9 H locs eS9 hH => ?_)
      replace hw := hw S9 eS9
      refine lv_aload_n hx hb dX12_draw_53 rfl (lv_at hl 0 rfl) ?_
      refine gf_r_0 hx hb hts hiX12 hown hK hn hH lk2 dX12_draw_54 ?_
      refine lv_bipush (v := 50) hx hb dX12_draw_57 (by decide +kernel) ?_
      refine lv_iload_n hx hb dX12_draw_59 rfl (lv_at hl 1 rfl) ?_
      refine lv_imul hx hb dX12_draw_60 ?_
      refine lv_iload_n hx hb dX12_draw_61 rfl (lv_at hl 2 rfl) ?_
      refine lv_iadd hx hb dX12_draw_62 ?_
      obtain ⟨hi_10, hw⟩ := hw
      refine k_ild hx hb hK hH (hn _ (by decide)) Er_1 hi_10 dX12_draw_63 ?_
      exact k_iret hx hb hr hlocks hK hN hH hw dX12_draw_64
    · replace hw := hw.1 hc6
      refine lv_iconst (v := -1) hx hb dX12_draw_14 (by decide +kernel) ?_
      exact k_iret hx hb hr hlocks hK hN hH hw dX12_draw_15
def wl_X12_findRows_16 (a1 : Int32) (a2 : Int32) (K_16 : Int32 → St → Prop) : Nat → Int32 → St → Prop
  | 0, _, _ => False
  | fu_16 + 1, v3_16, S_16 => ((a2 ≤ (gI S_16 0 22) → K_16 v3_16 S_16) ∧ (¬ a2 ≤ (gI S_16 0 22) → (((50 : Int32) ≤ v3_16 → K_16 v3_16 S_16) ∧ (¬ (50 : Int32) ≤ v3_16 → (vp_in ((3 : Int32) * (gI S_16 0 22)) 60 ∧ ∀ S8 : St, S8 = sA S_16 10 ((3 : Int32) * (gI S_16 0 22)).toNatClampNeg v3_16 → wp_X12_shown a1 S8 (fun r10 S9 => (vp_in (((3 : Int32) * (gI S8 0 22)) + (1 : Int32)) 60 ∧ ∀ S12 : St, S12 = sA S9 10 (((3 : Int32) * (gI S8 0 22)) + (1 : Int32)).toNatClampNeg r10 → wp_X12_lastOf a1 S12 (fun r14 S13 => (vp_in (((3 : Int32) * (gI S12 0 22)) + (2 : Int32)) 60 ∧ ∀ S16 : St, S16 = sA S13 10 (((3 : Int32) * (gI S12 0 22)) + (2 : Int32)).toNatClampNeg r14 → (∀ S17 : St, S17 = sI S16 0 22 ((gI S16 0 22) + (1 : Int32)) → wp_X12_moves a1 v3_16 S17 (fun S18 => (∀ t19 : Int32, t19 = v3_16 + 1 → wl_X12_findRows_16 a1 a2 K_16 fu_16 t19 S18))))))))))))
def wp_X12_findRows (a1 : Int32) (a2 : Int32) (S : St) (Q : St → Prop) : Prop := wp_X12_lends S (fun S1 => (∀ S2 : St, S2 = sI S1 0 22 (0 : Int32) → (vp_in (0 : Int32) 232 ∧ (∀ t4 : Int32, t4 = (gA S2 3 (0 : Int32).toNatClampNeg) → (∃ m_16 : Nat, wl_X12_findRows_16 a1 a2 (fun e3_20 S21 => (∀ S22 : St, S22 = sI S21 0 3 (0 : Int32) → Q S22)) m_16 t4 S2)))))
set_option maxHeartbeats 4000000 in
set_option maxRecDepth 100000 in
theorem c_X12_findRows (l : Launch) (D : va_G) (kA : Nat → ClassId) (ly : Nat → Nat) (n : List Nat) (hn : ∀ c, c < 20 → c ∈ n) (A : Nat → Prop) (a1 : Int32) (a2 : Int32) : Cv l yX12_findRows wsX12_findRows 3 66 (Gp D (Er kA ly) ly n A kA) A [.ref (ly 0), .int a1, .int a2] (wp_X12_findRows a1 a2) := by
  intro S Q
  refine Met.ofW (cc := cX12_findRows) (maxL := 4) (ret := none) (by decide) rfl ?_
  intro p e s m args below meth c s₁ B hml hv
  obtain ⟨rfl, ⟨hP, hD, hK, hN⟩, hw⟩ := hv
  have hx := B.exec
  have hb := B.bytes
  have hr := B.returns
  have hts := atoms_spec (ws := wsX12_findRows) B.pre
  have hown : s.vm.findClass RX12 = some m.cls := findClass_of_methodNamed B.named
  have hlocks := B.notSynchronized
  have hH : Hp D (Er kA ly) ly n A s.heap S s.heap [] := ⟨hP, hD, va_S.rf⟩
  have hiX12 : ∀ w ∈ u_ws RX12 TX12 39, w ∈ wsX12_findRows := by decide +kernel
  have lk0 := hts (.fieldLink RX12 262 "SlowPanesModel" "mustMany" "I") (by decide +kernel)
  have lk1 := hts (.fieldLink RX12 16 "SlowPanesModel" "row" "[I") (by decide +kernel)
  have lk2 := hts (.fieldLink RX12 41 "SlowPanesModel" "must" "[I") (by decide +kernel)
  have lk3 := hts (.fieldLink RX12 76 "SlowPanesModel" "at" "I") (by decide +kernel)
  have hl := lv_entry ([.ref (ly 0), .int a1, .int a2]) (n := 4) (Nat.le_of_ble_eq_true rfl)
  rw [lg_entry_eq]
  generalize (lg_sl ([.ref (ly 0), .int a1, .int a2]) ++ List.replicate (4 - (lg_sl ([.ref (ly 0), .int a1, .int a2])).length) Slot.unset).toArray = ls at hl ⊢
  have hl : lv_has ls 4 [(0, .ref (ly 0)), (1, .int a1), (2, .int a2)] := hl
  rw [wp_X12_findRows] at hw
  refine lv_aload_n hx hb dX12_findRows_0 rfl (lv_at hl 0 rfl) ?_
  refine k_aftv (va_runV (As := []) (rest := []) ⟨hx, hb, hml, hown, hts⟩ (c_X12_lends l D kA ly n hn A S _) (cwV 0 hts gX12_findRows_X12_lends rfl rfl rfl (by decide +kernel) ⟨(Nat.le_of_ble_eq_true rfl), (Nat.le_of_ble_eq_true rfl)⟩) ⟨k_blind, (k_recv hK hH (hn _ (by decide)) Er_0 rfl), k_pre hK hN hH hw⟩ rfl rfl hl.1 rfl (lv_room (Nat.le_of_ble_eq_true rfl)) dX12_findRows_1 ⟨Nat.le_refl _, Nat.le_refl _⟩) hH (fun S1 H locs hw hH => ?_)
  refine lv_aload_n hx hb dX12_findRows_4 rfl (lv_at hl 0 rfl) ?_
  refine lv_iconst (v := 0) hx hb dX12_findRows_5 (by decide +kernel) ?_
  refine pf_r_22 hx hb hts hiX12 hown hK hn hH lk0 dX12_findRows_6 (fun S2 H locs eS2 hH => ?_)
  replace hw := hw S2 eS2
  refine lv_aload_n hx hb dX12_findRows_9 rfl (lv_at hl 0 rfl) ?_
  refine gf_r_2 hx hb hts hiX12 hown hK hn hH lk1 dX12_findRows_10 ?_
  refine lv_iconst (v := 0) hx hb dX12_findRows_13 (by decide +kernel) ?_
  obtain ⟨hi_3, hw⟩ := hw
  refine k_ild hx hb hK hH (hn _ (by decide)) Er_3 hi_3 dX12_findRows_14 ?_
  refine lv_topi (fun t4 et4 => ?_)
  replace hw := hw t4 et4
  refine lv_istore_n (lv' := [(3, .int t4), (0, .ref (ly 0)), (1, .int a1), (2, .int a2)]) hx hb dX12_findRows_15 rfl hl (by decide) rfl (fun ls hl => ?_)
  have L_16 : ∀ (K_16 : Int32 → St → Prop) (hk_16 : ∀ (v3_16 : Int32) (S_16 : St) (H : Heap) (locs : List Loc) (ls : Array Slot), K_16 v3_16 S_16 → Hp D (Er kA ly) ly n A s.heap S_16 H locs → lv_has ls 4 [(0, .ref (ly 0)), (1, .int a1), (2, .int a2), (3, .int v3_16)] → W p l e (headSpec wsX12_findRows { frames := 3, cells := 0, slots := 0, locals := 66 }).room s m [.ref (ly 0), .int a1, .int a2].toArray below meth c H locs 0 0 (MQ below (va_Qv Q (Gp D (Er kA ly) ly n A kA) A) [.ref (ly 0), .int a1, .int a2].toArray s 0 0 A) (F0 m 100 ls [])) (fu_16 : Nat) (v3_16 : Int32) (S_16 : St) (H : Heap) (locs : List Loc) (ls : Array Slot), wl_X12_findRows_16 a1 a2 K_16 fu_16 v3_16 S_16 → Hp D (Er kA ly) ly n A s.heap S_16 H locs → lv_has ls 4 [(0, .ref (ly 0)), (1, .int a1), (2, .int a2), (3, .int v3_16)] → W p l e (headSpec wsX12_findRows { frames := 3, cells := 0, slots := 0, locals := 66 }).room s m [.ref (ly 0), .int a1, .int a2].toArray below meth c H locs 0 0 (MQ below (va_Qv Q (Gp D (Er kA ly) ly n A kA) A) [.ref (ly 0), .int a1, .int a2].toArray s 0 0 A) (F0 m 16 ls []) := by
    intro K_16 hk_16 fu_16
    induction fu_16 with
    | zero => intro v3_16 S_16 H locs ls hw hH hl; rw [wl_X12_findRows_16] at hw; exact hw.elim
    | succ fu_16 ih_16 =>
      intro v3_16 S_16 H locs ls hw hH hl
      rw [wl_X12_findRows_16] at hw
      refine lv_aload_n hx hb dX12_findRows_16 rfl (lv_at hl 0 rfl) ?_
      refine gf_r_22 hx hb hts hiX12 hown hK hn hH lk0 dX12_findRows_17 ?_
      refine lv_iload_n hx hb dX12_findRows_20 rfl (lv_at hl 2 rfl) ?_
      refine lv_icmp_ge (tgt := 100) hx hb dX12_findRows_21 (by decide) (fun hc5 => ?_) (fun hc5 => ?_)
      · replace hw := hw.1 hc5
        exact hk_16 v3_16 S_16 _ _ ls hw hH (lv_sub hl [0, 1, 2, 3] rfl)
      · replace hw := hw.2 hc5
        refine lv_iload_n hx hb dX12_findRows_24 rfl (lv_at hl 3 rfl) ?_
        refine lv_bipush (v := 50) hx hb dX12_findRows_25 (by decide +kernel) ?_
        refine lv_icmp_ge (tgt := 100) hx hb dX12_findRows_27 (by decide) (fun hc6 => ?_) (fun hc6 => ?_)
        · replace hw := hw.1 hc6
          exact hk_16 v3_16 S_16 _ _ ls hw hH (lv_sub hl [0, 1, 2, 3] rfl)
        · replace hw := hw.2 hc6
          refine lv_aload_n hx hb dX12_findRows_30 rfl (lv_at hl 0 rfl) ?_
          refine gf_r_20 hx hb hts hiX12 hown hK hn hH lk2 dX12_findRows_31 ?_
          refine lv_iconst (v := 3) hx hb dX12_findRows_34 (by decide +kernel) ?_
          refine lv_aload_n hx hb dX12_findRows_35 rfl (lv_at hl 0 rfl) ?_
          refine gf_r_22 hx hb hts hiX12 hown hK hn hH lk0 dX12_findRows_36 ?_
          refine lv_imul hx hb dX12_findRows_39 ?_
          refine lv_iload_n hx hb dX12_findRows_40 rfl (lv_at hl 3 rfl) ?_
          obtain ⟨hi_7, hw⟩ := hw
          refine k_ist hx hb hK hH (hn _ (by decide)) (fun _ => Er_10) hi_7 dX12_findRows_41 (fun S8 H locs eS8 hH => ?_)
          replace hw := hw S8 eS8
          refine lv_aload_n hx hb dX12_findRows_42 rfl (lv_at hl 0 rfl) ?_
          refine gf_r_20 hx hb hts hiX12 hown hK hn hH lk2 dX12_findRows_43 ?_
          refine lv_iconst (v := 3) hx hb dX12_findRows_46 (by decide +kernel) ?_
          refine lv_aload_n hx hb dX12_findRows_47 rfl (lv_at hl 0 rfl) ?_
          refine gf_r_22 hx hb hts hiX12 hown hK hn hH lk0 dX12_findRows_48 ?_
          refine lv_imul hx hb dX12_findRows_51 ?_
          refine lv_iconst (v := 1) hx hb dX12_findRows_52 (by decide +kernel) ?_
          refine lv_iadd hx hb dX12_findRows_53 ?_
          refine lv_aload_n hx hb dX12_findRows_54 rfl (lv_at hl 0 rfl) ?_
          refine lv_iload_n hx hb dX12_findRows_55 rfl (lv_at hl 1 rfl) ?_
          refine k_afti (va_runV (As := [.int a1]) (rest := [.int (((3 : Int32) * (gI S8 0 22)) + (1 : Int32)), .ref (ly 10)]) ⟨hx, hb, hml, hown, hts⟩ (c_X12_shown l D kA ly n hn A a1 S8 _) (cwV 1 hts gX12_findRows_X12_shown rfl rfl rfl (by decide +kernel) ⟨(Nat.le_of_ble_eq_true rfl), (Nat.le_of_ble_eq_true rfl)⟩) ⟨k_blind, (k_recv hK hH (hn _ (by decide)) Er_0 rfl), k_pre hK hN hH hw⟩ rfl rfl hl.1 rfl (lv_room (Nat.le_of_ble_eq_true rfl)) dX12_findRows_56 ⟨Nat.le_refl _, Nat.le_refl _⟩) hH (fun r10 S9 H locs hw hH => ?_)
          obtain ⟨hi_11, hw⟩ := hw
          refine k_ist hx hb hK hH (hn _ (by decide)) (fun _ => Er_10) hi_11 dX12_findRows_59 (fun S12 H locs eS12 hH => ?_)
          replace hw := hw S12 eS12
          refine lv_aload_n hx hb dX12_findRows_60 rfl (lv_at hl 0 rfl) ?_
          refine gf_r_20 hx hb hts hiX12 hown hK hn hH lk2 dX12_findRows_61 ?_
          refine lv_iconst (v := 3) hx hb dX12_findRows_64 (by decide +kernel) ?_
          refine lv_aload_n hx hb dX12_findRows_65 rfl (lv_at hl 0 rfl) ?_
          refine gf_r_22 hx hb hts hiX12 hown hK hn hH lk0 dX12_findRows_66 ?_
          refine lv_imul hx hb dX12_findRows_69 ?_
          refine lv_iconst (v := 2) hx hb dX12_findRows_70 (by decide +kernel) ?_
          refine lv_iadd hx hb dX12_findRows_71 ?_
          refine lv_aload_n hx hb dX12_findRows_72 rfl (lv_at hl 0 rfl) ?_
          refine lv_iload_n hx hb dX12_findRows_73 rfl (lv_at hl 1 rfl) ?_
          refine k_afti (va_runV (As := [.int a1]) (rest := [.int (((3 : Int32) * (gI S12 0 22)) + (2 : Int32)), .ref (ly 10)]) ⟨hx, hb, hml, hown, hts⟩ (c_X12_lastOf l D kA ly n hn A a1 S12 _) (cwV 1 hts gX12_findRows_X12_lastOf rfl rfl rfl (by decide +kernel) ⟨(Nat.le_of_ble_eq_true rfl), (Nat.le_of_ble_eq_true rfl)⟩) ⟨k_blind, (k_recv hK hH (hn _ (by decide)) Er_0 rfl), k_pre hK hN hH hw⟩ rfl rfl hl.1 rfl (lv_room (Nat.le_of_ble_eq_true rfl)) dX12_findRows_74 ⟨Nat.le_refl _, Nat.le_refl _⟩) hH (fun r14 S13 H locs hw hH => ?_)
          obtain ⟨hi_15, hw⟩ := hw
          refine k_ist hx hb hK hH (hn _ (by decide)) (fun _ => Er_10) hi_15 dX12_findRows_77 (fun S16 H locs eS16 hH => ?_)
          replace hw := hw S16 eS16
          refine lv_aload_n hx hb dX12_findRows_78 rfl (lv_at hl 0 rfl) ?_
          refine lv_dup hx hb dX12_findRows_79 rfl ?_
          refine gf_r_22 hx hb hts hiX12 hown hK hn hH lk0 dX12_findRows_80 ?_
          refine lv_iconst (v := 1) hx hb dX12_findRows_83 (by decide +kernel) ?_
          refine lv_iadd hx hb dX12_findRows_84 ?_
          refine pf_r_22 hx hb hts hiX12 hown hK hn hH lk0 dX12_findRows_85 (fun S17 H locs eS17 hH => ?_)
          replace hw := hw S17 eS17
          refine lv_aload_n hx hb dX12_findRows_88 rfl (lv_at hl 0 rfl) ?_
          refine lv_iload_n hx hb dX12_findRows_89 rfl (lv_at hl 1 rfl) ?_
          refine lv_iload_n hx hb dX12_findRows_90 rfl (lv_at hl 3 rfl) ?_
          refine k_aftv (va_runV (As := [.int a1, .int v3_16]) (rest := []) ⟨hx, hb, hml, hown, hts⟩ (c_X12_moves l D kA ly n hn A a1 v3_16 S17 _) (cwV 2 hts gX12_findRows_X12_moves rfl rfl rfl (by decide +kernel) ⟨(Nat.le_of_ble_eq_true rfl), (Nat.le_of_ble_eq_true rfl)⟩) ⟨k_blind, (k_recv hK hH (hn _ (by decide)) Er_0 rfl), k_pre hK hN hH hw⟩ rfl rfl hl.1 rfl (lv_room (Nat.le_of_ble_eq_true rfl)) dX12_findRows_91 ⟨Nat.le_refl _, Nat.le_refl _⟩) hH (fun S18 H locs hw hH => ?_)
          obtain ⟨t19, et19⟩ : ∃ y : Int32, y = v3_16 + 1 := ⟨_, rfl⟩
          replace hw := hw t19 et19
          refine lv_iinc (v := t19) (lv' := [(3, .int t19), (0, .ref (ly 0)), (1, .int a1), (2, .int a2)]) hx hb dX12_findRows_94 hl (k := 3) rfl (by rw [et19]; rfl) (by decide) rfl (fun ls hl => ?_)
          refine lv_goto (tgt := 16) hx hb dX12_findRows_97 (by decide) ?_
          exact ih_16 t19 S18 _ _ ls hw hH (lv_sub hl [1, 2, 3, 0] rfl)
  obtain ⟨m_16, hw⟩ := hw
  refine L_16 _ (fun e3_20 S21 H locs ls hw hH hl => ?_) m_16 t4 S2 _ _ ls hw hH (lv_sub hl [1, 2, 3, 0] rfl)
  refine lv_aload_n hx hb dX12_findRows_100 rfl (lv_at hl 0 rfl) ?_
  refine lv_iconst (v := 0) hx hb dX12_findRows_101 (by decide +kernel) ?_
  refine pf_r_3 hx hb hts hiX12 hown hK hn hH lk3 dX12_findRows_102 (fun S22 H locs eS22 hH => ?_)
  replace hw := hw S22 eS22
  exact k_vret hx hb hr hlocks hK hN hH hw dX12_findRows_105
