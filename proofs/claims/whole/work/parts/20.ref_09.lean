def wl_X12_sheet_64 (a1 : Int32) (K_64 : Int32 → St → Prop) : Nat → Int32 → St → Prop
  | 0, _, _ => False
  | fu_64 + 1, v4_64, S_64 => (((40 : Int32) ≤ v4_64 → K_64 v4_64 S_64) ∧ (¬ (40 : Int32) ≤ v4_64 → (vp_in (((40 : Int32) * a1) + v4_64) 160 ∧ ∀ S13 : St, S13 = sL S_64 13 (((40 : Int32) * a1) + v4_64).toNatClampNeg (0 : Int64) → (∀ t14 : Int32, t14 = v4_64 + 1 → wl_X12_sheet_64 a1 K_64 fu_64 t14 S13))))
def wj_X12_sheet_60 (a1 : Int32) (Q : Int32 → St → Prop)  (q0_60 : Int32) (q1_60 : Int32) (S_60 : St) : Prop := (vp_in q1_60 4 ∧ ∀ S10 : St, S10 = sA S_60 12 q1_60.toNatClampNeg q0_60 → (∃ m_64 : Nat, wl_X12_sheet_64 a1 (fun e4_15 S16 => Q (1 : Int32) S16) m_64 (0 : Int32) S10))
def wj_X12_sheet_39 (a1 : Int32) (a2 : Int32) (a3 : Int32) (Q : Int32 → St → Prop)   (S_39 : St) : Prop := (vp_in a1 4 ∧ ∀ S8 : St, S8 = sA S_39 11 a1.toNatClampNeg a2 → ((0 ≤ a2 → wj_X12_sheet_60 a1 Q a3 a1 S8) ∧ (¬ 0 ≤ a2 → wj_X12_sheet_60 a1 Q (0 : Int32) a1 S8)))
def wj_X12_sheet_28 (a1 : Int32) (a2 : Int32) (a3 : Int32) (Q : Int32 → St → Prop)   (S_28 : St) : Prop := ((a2 < 0 → wj_X12_sheet_39 a1 a2 a3 Q S_28) ∧ (¬ a2 < 0 → ((0 ≤ a3 → wj_X12_sheet_39 a1 a2 a3 Q S_28) ∧ (¬ 0 ≤ a3 → Q (-14 : Int32) S_28))))
def wp_X12_sheet (a1 : Int32) (a2 : Int32) (a3 : Int32) (S : St) (Q : Int32 → St → Prop) : Prop := wp_X12_isShelf a1 S (fun r2 S1 => ((r2 = 0 → Q (-1 : Int32) S1) ∧ (¬ r2 = 0 → wp_X12_in a2 (-1 : Int32) (3 : Int32) S1 (fun r5 S4 => ((r5 = 0 → Q (-1 : Int32) S4) ∧ (¬ r5 = 0 → ((a2 < 0 → wj_X12_sheet_28 a1 a2 a3 Q S4) ∧ (¬ a2 < 0 → ((a3 ≤ (40 : Int32) → wj_X12_sheet_28 a1 a2 a3 Q S4) ∧ (¬ a3 ≤ (40 : Int32) → Q (-1 : Int32) S4))))))))))
set_option maxHeartbeats 4000000 in
set_option maxRecDepth 100000 in
theorem c_X12_sheet (l : Launch) (D : va_G) (kA : Nat → ClassId) (ly : Nat → Nat) (n : List Nat) (hn : ∀ c, c < 20 → c ∈ n) (A : Nat → Prop) (a1 : Int32) (a2 : Int32) (a3 : Int32) : Ci l yX12_sheet wsX12_sheet 2 42 (Gp D (Er kA ly) ly n A kA) A [.ref (ly 0), .int a1, .int a2, .int a3] (wp_X12_sheet a1 a2 a3) := by
  intro S Q
  refine Met.ofW (cc := cX12_sheet) (maxL := 5) (ret := (some .int)) (by decide) rfl ?_
  intro p e s m args below meth c s₁ B hml hv
  obtain ⟨rfl, ⟨hP, hD, hK, hN⟩, hw⟩ := hv
  have hx := B.exec
  have hb := B.bytes
  have hr := B.returns
  have hts := atoms_spec (ws := wsX12_sheet) B.pre
  have hown : s.vm.findClass RX12 = some m.cls := findClass_of_methodNamed B.named
  have hlocks := B.notSynchronized
  have hH : Hp D (Er kA ly) ly n A s.heap S s.heap [] := ⟨hP, hD, va_S.rf⟩
  have hiX12 : ∀ w ∈ u_ws RX12 TX12 39, w ∈ wsX12_sheet := by decide +kernel
  have lk0 := hts (.fieldLink RX12 44 "SlowPanesModel" "sorts" "[I") (by decide +kernel)
  have lk1 := hts (.fieldLink RX12 47 "SlowPanesModel" "sizes" "[I") (by decide +kernel)
  have lk2 := hts (.fieldLink RX12 50 "SlowPanesModel" "sheets" "[J") (by decide +kernel)
  have hl := lv_entry ([.ref (ly 0), .int a1, .int a2, .int a3]) (n := 5) (Nat.le_of_ble_eq_true rfl)
  rw [lg_entry_eq]
  generalize (lg_sl ([.ref (ly 0), .int a1, .int a2, .int a3]) ++ List.replicate (5 - (lg_sl ([.ref (ly 0), .int a1, .int a2, .int a3])).length) Slot.unset).toArray = ls at hl ⊢
  have hl : lv_has ls 5 [(0, .ref (ly 0)), (1, .int a1), (2, .int a2), (3, .int a3)] := hl
  rw [wp_X12_sheet] at hw
  refine lv_iload_n hx hb dX12_sheet_0 rfl (lv_at hl 1 rfl) ?_
  refine k_afti (va_runS (As := [.int a1]) (rest := []) ⟨hx, hb, hml, hown, hts⟩ (c_X12_isShelf l D kA ly n hn A a1 S _) (va_cwS 1 hts gX12_sheet_X12_isShelf rfl rfl rfl (by decide +kernel) ⟨(Nat.le_of_ble_eq_true rfl), (Nat.le_of_ble_eq_true rfl)⟩) ⟨k_blind, k_pre hK hN hH hw⟩ rfl rfl hl.1 rfl (lv_room (Nat.le_of_ble_eq_true rfl)) dX12_sheet_1 ⟨Nat.le_refl _, Nat.le_refl _⟩) hH (fun r2 S1 H locs hw hH => ?_)
  refine lv_if_eq (tgt := 26) hx hb dX12_sheet_4 (by decide) (fun hc3 => ?_) (fun hc3 => ?_)
  · replace hw := hw.1 hc3
    refine lv_iconst (v := -1) hx hb dX12_sheet_26 (by decide +kernel) ?_
    exact k_iret hx hb hr hlocks hK hN hH hw dX12_sheet_27
  · replace hw := hw.2 hc3
    refine lv_iload_n hx hb dX12_sheet_7 rfl (lv_at hl 2 rfl) ?_
    refine lv_iconst (v := -1) hx hb dX12_sheet_8 (by decide +kernel) ?_
    refine lv_iconst (v := 3) hx hb dX12_sheet_9 (by decide +kernel) ?_
    refine k_afti (va_runS (As := [.int a2, .int (-1 : Int32), .int (3 : Int32)]) (rest := []) ⟨hx, hb, hml, hown, hts⟩ (c_X12_in l D kA ly n hn A a2 (-1 : Int32) (3 : Int32) S1 _) (va_cwS 3 hts gX12_sheet_X12_in rfl rfl rfl (by decide +kernel) ⟨(Nat.le_of_ble_eq_true rfl), (Nat.le_of_ble_eq_true rfl)⟩) ⟨k_blind, k_pre hK hN hH hw⟩ rfl rfl hl.1 rfl (lv_room (Nat.le_of_ble_eq_true rfl)) dX12_sheet_10 ⟨Nat.le_refl _, Nat.le_refl _⟩) hH (fun r5 S4 H locs hw hH => ?_)
    refine lv_if_eq (tgt := 26) hx hb dX12_sheet_13 (by decide) (fun hc6 => ?_) (fun hc6 => ?_)
    · replace hw := hw.1 hc6
      refine lv_iconst (v := -1) hx hb dX12_sheet_26 (by decide +kernel) ?_
      exact k_iret hx hb hr hlocks hK hN hH hw dX12_sheet_27
    · replace hw := hw.2 hc6
      refine lv_iload_n hx hb dX12_sheet_16 rfl (lv_at hl 2 rfl) ?_
      have J_28 : ∀  (S_28 : St) (H : Heap) (locs : List Loc) (ls : Array Slot), wj_X12_sheet_28 a1 a2 a3 Q S_28 → Hp D (Er kA ly) ly n A s.heap S_28 H locs → lv_has ls 5 [(0, .ref (ly 0)), (1, .int a1), (2, .int a2), (3, .int a3)] → W p l e (headSpec wsX12_sheet { frames := 2, cells := 0, slots := 0, locals := 42 }).room s m [.ref (ly 0), .int a1, .int a2, .int a3].toArray below meth c H locs 0 0 (MQ below (va_Qi Q (Gp D (Er kA ly) ly n A kA) A) [.ref (ly 0), .int a1, .int a2, .int a3].toArray s 0 0 A) (F0 m 28 ls []) := by
        intro S_28 H locs ls hw hH hl
        rw [wj_X12_sheet_28] at hw
        refine lv_iload_n hx hb dX12_sheet_28 rfl (lv_at hl 2 rfl) ?_
        have J_39 : ∀  (S_39 : St) (H : Heap) (locs : List Loc) (ls : Array Slot), wj_X12_sheet_39 a1 a2 a3 Q S_39 → Hp D (Er kA ly) ly n A s.heap S_39 H locs → lv_has ls 5 [(0, .ref (ly 0)), (1, .int a1), (2, .int a2), (3, .int a3)] → W p l e (headSpec wsX12_sheet { frames := 2, cells := 0, slots := 0, locals := 42 }).room s m [.ref (ly 0), .int a1, .int a2, .int a3].toArray below meth c H locs 0 0 (MQ below (va_Qi Q (Gp D (Er kA ly) ly n A kA) A) [.ref (ly 0), .int a1, .int a2, .int a3].toArray s 0 0 A) (F0 m 39 ls []) := by
          intro S_39 H locs ls hw hH hl
          rw [wj_X12_sheet_39] at hw
          refine lv_aload_n hx hb dX12_sheet_39 rfl (lv_at hl 0 rfl) ?_
          refine gf_r_23 hx hb hts hiX12 hown hK hn hH lk0 dX12_sheet_40 ?_
          refine lv_iload_n hx hb dX12_sheet_43 rfl (lv_at hl 1 rfl) ?_
          refine lv_iload_n hx hb dX12_sheet_44 rfl (lv_at hl 2 rfl) ?_
          obtain ⟨hi_7, hw⟩ := hw
          refine k_ist hx hb hK hH (hn _ (by decide)) (fun _ => Er_11) hi_7 dX12_sheet_45 (fun S8 H locs eS8 hH => ?_)
          replace hw := hw S8 eS8
          refine lv_aload_n hx hb dX12_sheet_46 rfl (lv_at hl 0 rfl) ?_
          refine gf_r_24 hx hb hts hiX12 hown hK hn hH lk1 dX12_sheet_47 ?_
          refine lv_iload_n hx hb dX12_sheet_50 rfl (lv_at hl 1 rfl) ?_
          refine lv_iload_n hx hb dX12_sheet_51 rfl (lv_at hl 2 rfl) ?_
          have J_60 : ∀ (q0_60 : Int32) (q1_60 : Int32) (S_60 : St) (H : Heap) (locs : List Loc) (ls : Array Slot), wj_X12_sheet_60 a1 Q q0_60 q1_60 S_60 → Hp D (Er kA ly) ly n A s.heap S_60 H locs → lv_has ls 5 [(0, .ref (ly 0)), (1, .int a1), (2, .int a2), (3, .int a3)] → W p l e (headSpec wsX12_sheet { frames := 2, cells := 0, slots := 0, locals := 42 }).room s m [.ref (ly 0), .int a1, .int a2, .int a3].toArray below meth c H locs 0 0 (MQ below (va_Qi Q (Gp D (Er kA ly) ly n A kA) A) [.ref (ly 0), .int a1, .int a2, .int a3].toArray s 0 0 A) (F0 m 60 ls [.int q0_60, .int q1_60, .ref (ly 12)]) := by
            intro q0_60 q1_60 S_60 H locs ls hw hH hl
            rw [wj_X12_sheet_60] at hw
            obtain ⟨hi_9, hw⟩ := hw
            refine k_ist hx hb hK hH (hn _ (by decide)) (fun _ => Er_12) hi_9 dX12_sheet_60 (fun S10 H locs eS10 hH => ?_)
            replace hw := hw S10 eS10
            refine lv_iconst (v := 0) hx hb dX12_sheet_61 (by decide +kernel) ?_
            refine lv_istore (lv' := [(4, .int (0 : Int32)), (0, .ref (ly 0)), (1, .int a1), (2, .int a2), (3, .int a3)]) hx hb dX12_sheet_62 hl (by decide) rfl (fun ls hl => ?_)
            have L_64 : ∀ (K_64 : Int32 → St → Prop) (hk_64 : ∀ (v4_64 : Int32) (S_64 : St) (H : Heap) (locs : List Loc) (ls : Array Slot), K_64 v4_64 S_64 → Hp D (Er kA ly) ly n A s.heap S_64 H locs → lv_has ls 5 [(0, .ref (ly 0)), (1, .int a1), (2, .int a2), (3, .int a3), (4, .int v4_64)] → W p l e (headSpec wsX12_sheet { frames := 2, cells := 0, slots := 0, locals := 42 }).room s m [.ref (ly 0), .int a1, .int a2, .int a3].toArray below meth c H locs 0 0 (MQ below (va_Qi Q (Gp D (Er kA ly) ly n A kA) A) [.ref (ly 0), .int a1, .int a2, .int a3].toArray s 0 0 A) (F0 m 90 ls [])) (fu_64 : Nat) (v4_64 : Int32) (S_64 : St) (H : Heap) (locs : List Loc) (ls : Array Slot), wl_X12_sheet_64 a1 K_64 fu_64 v4_64 S_64 → Hp D (Er kA ly) ly n A s.heap S_64 H locs → lv_has ls 5 [(0, .ref (ly 0)), (1, .int a1), (2, .int a2), (3, .int a3), (4, .int v4_64)] → W p l e (headSpec wsX12_sheet { frames := 2, cells := 0, slots := 0, locals := 42 }).room s m [.ref (ly 0), .int a1, .int a2, .int a3].toArray below meth c H locs 0 0 (MQ below (va_Qi Q (Gp D (Er kA ly) ly n A kA) A) [.ref (ly 0), .int a1, .int a2, .int a3].toArray s 0 0 A) (F0 m 64 ls []) := by
              intro K_64 hk_64 fu_64
              induction fu_64 with
              | zero => intro v4_64 S_64 H locs ls hw hH hl; rw [wl_X12_sheet_64] at hw; exact hw.elim
              | succ fu_64 ih_64 =>
                intro v4_64 S_64 H locs ls hw hH hl
                rw [wl_X12_sheet_64] at hw
                refine lv_iload hx hb dX12_sheet_64 (lv_at hl 4 rfl) ?_
                refine lv_bipush (v := 40) hx hb dX12_sheet_66 (by decide +kernel) ?_
                refine lv_icmp_ge (tgt := 90) hx hb dX12_sheet_68 (by decide) (fun hc11 => ?_) (fun hc11 => ?_)
                · replace hw := hw.1 hc11
                  exact hk_64 v4_64 S_64 _ _ ls hw hH (lv_sub hl [0, 1, 2, 3, 4] rfl)
                · replace hw := hw.2 hc11
                  refine lv_aload_n hx hb dX12_sheet_71 rfl (lv_at hl 0 rfl) ?_
                  refine gf_r_25 hx hb hts hiX12 hown hK hn hH lk2 dX12_sheet_72 ?_
                  refine lv_bipush (v := 40) hx hb dX12_sheet_75 (by decide +kernel) ?_
                  refine lv_iload_n hx hb dX12_sheet_77 rfl (lv_at hl 1 rfl) ?_
                  refine lv_imul hx hb dX12_sheet_78 ?_
                  refine lv_iload hx hb dX12_sheet_79 (lv_at hl 4 rfl) ?_
                  refine lv_iadd hx hb dX12_sheet_81 ?_
                  refine lv_lconst (v := 0) hx hb dX12_sheet_82 (by decide +kernel) ?_
                  obtain ⟨hi_12, hw⟩ := hw
                  refine k_lst hx hb hK hH (hn _ (by decide)) (fun _ => Er_s) hi_12 dX12_sheet_83 (fun S13 H locs eS13 hH => ?_)
                  replace hw := hw S13 eS13
                  obtain ⟨t14, et14⟩ : ∃ y : Int32, y = v4_64 + 1 := ⟨_, rfl⟩
                  replace hw := hw t14 et14
                  refine lv_iinc (v := t14) (lv' := [(4, .int t14), (0, .ref (ly 0)), (1, .int a1), (2, .int a2), (3, .int a3)]) hx hb dX12_sheet_84 hl (k := 4) rfl (by rw [et14]; rfl) (by decide) rfl (fun ls hl => ?_)
                  refine lv_goto (tgt := 64) hx hb dX12_sheet_87 (by decide) ?_
                  exact ih_64 t14 S13 _ _ ls hw hH (lv_sub hl [1, 2, 3, 4, 0] rfl)
            obtain ⟨m_64, hw⟩ := hw
            refine L_64 _ (fun e4_15 S16 H locs ls hw hH hl => ?_) m_64 (0 : Int32) S10 _ _ ls hw hH (lv_sub hl [1, 2, 3, 4, 0] rfl)
            refine lv_iconst (v := 1) hx hb dX12_sheet_90 (by decide +kernel) ?_
            exact k_iret hx hb hr hlocks hK hN hH hw dX12_sheet_91
          refine lv_if_ge (tgt := 59) hx hb dX12_sheet_52 (by decide) (fun hc17 => ?_) (fun hc17 => ?_)
          · replace hw := hw.1 hc17
            refine lv_iload_n hx hb dX12_sheet_59 rfl (lv_at hl 3 rfl) ?_
            exact J_60 a3 a1 S8 _ _ ls hw hH (lv_sub hl [0, 1, 2, 3] rfl)
          · replace hw := hw.2 hc17
            refine lv_iconst (v := 0) hx hb dX12_sheet_55 (by decide +kernel) ?_
            refine lv_goto (tgt := 60) hx hb dX12_sheet_56 (by decide) ?_
            exact J_60 (0 : Int32) a1 S8 _ _ ls hw hH (lv_sub hl [0, 1, 2, 3] rfl)
        refine lv_if_lt (tgt := 39) hx hb dX12_sheet_29 (by decide) (fun hc18 => ?_) (fun hc18 => ?_)
        · replace hw := hw.1 hc18
          exact J_39  S_28 _ _ ls hw hH (lv_sub hl [0, 1, 2, 3] rfl)
        · replace hw := hw.2 hc18
          refine lv_iload_n hx hb dX12_sheet_32 rfl (lv_at hl 3 rfl) ?_
          refine lv_if_ge (tgt := 39) hx hb dX12_sheet_33 (by decide) (fun hc19 => ?_) (fun hc19 => ?_)
          · replace hw := hw.1 hc19
            exact J_39  S_28 _ _ ls hw hH (lv_sub hl [0, 1, 2, 3] rfl)
          · replace hw := hw.2 hc19
            refine lv_bipush (v := -14) hx hb dX12_sheet_36 (by decide +kernel) ?_
            exact k_iret hx hb hr hlocks hK hN hH hw dX12_sheet_38
      refine lv_if_lt (tgt := 28) hx hb dX12_sheet_17 (by decide) (fun hc20 => ?_) (fun hc20 => ?_)
      · replace hw := hw.1 hc20
        exact J_28  S4 _ _ ls hw hH (lv_sub hl [0, 1, 2, 3] rfl)
      · replace hw := hw.2 hc20
        refine lv_iload_n hx hb dX12_sheet_20 rfl (lv_at hl 3 rfl) ?_
        refine lv_bipush (v := 40) hx hb dX12_sheet_21 (by decide +kernel) ?_
        refine lv_icmp_le (tgt := 28) hx hb dX12_sheet_23 (by decide) (fun hc21 => ?_) (fun hc21 => ?_)
        · replace hw := hw.1 hc21
          exact J_28  S4 _ _ ls hw hH (lv_sub hl [0, 1, 2, 3] rfl)
        · replace hw := hw.2 hc21
          refine lv_iconst (v := -1) hx hb dX12_sheet_26 (by decide +kernel) ?_
          exact k_iret hx hb hr hlocks hK hN hH hw dX12_sheet_27
def wp_X12_put (a1 : Int32) (a2 : Int32) (a3 : Int32) (S : St) (Q : Int32 → St → Prop) : Prop := wp_X12_isShelf a1 S (fun r2 S1 => ((r2 = 0 → Q (-1 : Int32) S1) ∧ (¬ r2 = 0 → (vp_in a1 4 ∧ ((0 ≤ (gA S1 11 a1.toNatClampNeg) → (vp_in a1 4 ∧ wp_X12_in a2 (0 : Int32) ((gA S1 12 a1.toNatClampNeg) - (1 : Int32)) S1 (fun r8 S7 => ((r8 = 0 → Q (-12 : Int32) S7) ∧ (¬ r8 = 0 → (vp_in a1 4 ∧ (((gA S7 11 a1.toNatClampNeg) = 0 → (vp_in (((40 : Int32) * a1) + a2) 160 ∧ ∀ S19 : St, S19 = sL S7 13 (((40 : Int32) * a1) + a2).toNatClampNeg ((a3.toInt8.toInt32).toInt64) → Q (1 : Int32) S19)) ∧ (¬ (gA S7 11 a1.toNatClampNeg) = 0 → (vp_in a1 4 ∧ (((gA S7 11 a1.toNatClampNeg) = (1 : Int32) → (vp_in (((40 : Int32) * a1) + a2) 160 ∧ ∀ S17 : St, S17 = sL S7 13 (((40 : Int32) * a1) + a2).toNatClampNeg ((a3.toInt16.toInt32).toInt64) → Q (1 : Int32) S17)) ∧ (¬ (gA S7 11 a1.toNatClampNeg) = (1 : Int32) → (vp_in (((40 : Int32) * a1) + a2) 160 ∧ ∀ S15 : St, S15 = sL S7 13 (((40 : Int32) * a1) + a2).toNatClampNeg (a3.toInt64) → Q (1 : Int32) S15)))))))))))) ∧ (¬ 0 ≤ (gA S1 11 a1.toNatClampNeg) → Q (-11 : Int32) S1))))))
set_option maxHeartbeats 4000000 in
set_option maxRecDepth 100000 in
theorem c_X12_put (l : Launch) (D : va_G) (kA : Nat → ClassId) (ly : Nat → Nat) (n : List Nat) (hn : ∀ c, c < 20 → c ∈ n) (A : Nat → Prop) (a1 : Int32) (a2 : Int32) (a3 : Int32) : Ci l yX12_put wsX12_put 2 42 (Gp D (Er kA ly) ly n A kA) A [.ref (ly 0), .int a1, .int a2, .int a3] (wp_X12_put a1 a2 a3) := by
  intro S Q
  refine Met.ofW (cc := cX12_put) (maxL := 4) (ret := (some .int)) (by decide) rfl ?_
  intro p e s m args below meth c s₁ B hml hv
  obtain ⟨rfl, ⟨hP, hD, hK, hN⟩, hw⟩ := hv
  have hx := B.exec
  have hb := B.bytes
  have hr := B.returns
  have hts := atoms_spec (ws := wsX12_put) B.pre
  have hown : s.vm.findClass RX12 = some m.cls := findClass_of_methodNamed B.named
  have hlocks := B.notSynchronized
  have hH : Hp D (Er kA ly) ly n A s.heap S s.heap [] := ⟨hP, hD, va_S.rf⟩
  have hiX12 : ∀ w ∈ u_ws RX12 TX12 39, w ∈ wsX12_put := by decide +kernel
  have lk0 := hts (.fieldLink RX12 44 "SlowPanesModel" "sorts" "[I") (by decide +kernel)
  have lk1 := hts (.fieldLink RX12 47 "SlowPanesModel" "sizes" "[I") (by decide +kernel)
  have lk2 := hts (.fieldLink RX12 50 "SlowPanesModel" "sheets" "[J") (by decide +kernel)
  have hl := lv_entry ([.ref (ly 0), .int a1, .int a2, .int a3]) (n := 4) (Nat.le_of_ble_eq_true rfl)
  rw [lg_entry_eq]
  generalize (lg_sl ([.ref (ly 0), .int a1, .int a2, .int a3]) ++ List.replicate (4 - (lg_sl ([.ref (ly 0), .int a1, .int a2, .int a3])).length) Slot.unset).toArray = ls at hl ⊢
  have hl : lv_has ls 4 [(0, .ref (ly 0)), (1, .int a1), (2, .int a2), (3, .int a3)] := hl
  rw [wp_X12_put] at hw
  refine lv_iload_n hx hb dX12_put_0 rfl (lv_at hl 1 rfl) ?_
  refine k_afti (va_runS (As := [.int a1]) (rest := []) ⟨hx, hb, hml, hown, hts⟩ (c_X12_isShelf l D kA ly n hn A a1 S _) (va_cwS 1 hts gX12_put_X12_isShelf rfl rfl rfl (by decide +kernel) ⟨(Nat.le_of_ble_eq_true rfl), (Nat.le_of_ble_eq_true rfl)⟩) ⟨k_blind, k_pre hK hN hH hw⟩ rfl rfl hl.1 rfl (lv_room (Nat.le_of_ble_eq_true rfl)) dX12_put_1 ⟨Nat.le_refl _, Nat.le_refl _⟩) hH (fun r2 S1 H locs hw hH => ?_)
  refine lv_if_ne (tgt := 9) hx hb dX12_put_4 (by decide) (fun hc3 => ?_) (fun hc3 => ?_)
  · replace hw := hw.2 hc3
    refine lv_aload_n hx hb dX12_put_9 rfl (lv_at hl 0 rfl) ?_
    refine gf_r_23 hx hb hts hiX12 hown hK hn hH lk0 dX12_put_10 ?_
    refine lv_iload_n hx hb dX12_put_13 rfl (lv_at hl 1 rfl) ?_
    obtain ⟨hi_4, hw⟩ := hw
    refine k_ild hx hb hK hH (hn _ (by decide)) Er_11 hi_4 dX12_put_14 ?_
    refine lv_if_ge (tgt := 21) hx hb dX12_put_15 (by decide) (fun hc5 => ?_) (fun hc5 => ?_)
    · replace hw := hw.1 hc5
      refine lv_iload_n hx hb dX12_put_21 rfl (lv_at hl 2 rfl) ?_
      refine lv_iconst (v := 0) hx hb dX12_put_22 (by decide +kernel) ?_
      refine lv_aload_n hx hb dX12_put_23 rfl (lv_at hl 0 rfl) ?_
      refine gf_r_24 hx hb hts hiX12 hown hK hn hH lk1 dX12_put_24 ?_
      refine lv_iload_n hx hb dX12_put_27 rfl (lv_at hl 1 rfl) ?_
      obtain ⟨hi_6, hw⟩ := hw
      refine k_ild hx hb hK hH (hn _ (by decide)) Er_12 hi_6 dX12_put_28 ?_
      refine lv_iconst (v := 1) hx hb dX12_put_29 (by decide +kernel) ?_
      refine lv_isub hx hb dX12_put_30 ?_
      refine k_afti (va_runS (As := [.int a2, .int (0 : Int32), .int ((gA S1 12 a1.toNatClampNeg) - (1 : Int32))]) (rest := []) ⟨hx, hb, hml, hown, hts⟩ (c_X12_in l D kA ly n hn A a2 (0 : Int32) ((gA S1 12 a1.toNatClampNeg) - (1 : Int32)) S1 _) (va_cwS 3 hts gX12_put_X12_in rfl rfl rfl (by decide +kernel) ⟨(Nat.le_of_ble_eq_true rfl), (Nat.le_of_ble_eq_true rfl)⟩) ⟨k_blind, k_pre hK hN hH hw⟩ rfl rfl hl.1 rfl (lv_room (Nat.le_of_ble_eq_true rfl)) dX12_put_31 ⟨Nat.le_refl _, Nat.le_refl _⟩) hH (fun r8 S7 H locs hw hH => ?_)
      refine lv_if_ne (tgt := 40) hx hb dX12_put_34 (by decide) (fun hc9 => ?_) (fun hc9 => ?_)
      · replace hw := hw.2 hc9
        refine lv_aload_n hx hb dX12_put_40 rfl (lv_at hl 0 rfl) ?_
        refine gf_r_25 hx hb hts hiX12 hown hK hn hH lk2 dX12_put_41 ?_
        refine lv_bipush (v := 40) hx hb dX12_put_44 (by decide +kernel) ?_
        refine lv_iload_n hx hb dX12_put_46 rfl (lv_at hl 1 rfl) ?_
        refine lv_imul hx hb dX12_put_47 ?_
        refine lv_iload_n hx hb dX12_put_48 rfl (lv_at hl 2 rfl) ?_
        refine lv_iadd hx hb dX12_put_49 ?_
        refine lv_aload_n hx hb dX12_put_50 rfl (lv_at hl 0 rfl) ?_
        refine gf_r_23 hx hb hts hiX12 hown hK hn hH lk0 dX12_put_51 ?_
        refine lv_iload_n hx hb dX12_put_54 rfl (lv_at hl 1 rfl) ?_
        obtain ⟨hi_10, hw⟩ := hw
        refine k_ild hx hb hK hH (hn _ (by decide)) Er_11 hi_10 dX12_put_55 ?_
        refine lv_if_ne (tgt := 65) hx hb dX12_put_56 (by decide) (fun hc11 => ?_) (fun hc11 => ?_)
        · replace hw := hw.2 hc11
          refine lv_aload_n hx hb dX12_put_65 rfl (lv_at hl 0 rfl) ?_
          refine gf_r_23 hx hb hts hiX12 hown hK hn hH lk0 dX12_put_66 ?_
          refine lv_iload_n hx hb dX12_put_69 rfl (lv_at hl 1 rfl) ?_
          obtain ⟨hi_12, hw⟩ := hw
          refine k_ild hx hb hK hH (hn _ (by decide)) Er_11 hi_12 dX12_put_70 ?_
          refine lv_iconst (v := 1) hx hb dX12_put_71 (by decide +kernel) ?_
          refine lv_icmp_ne (tgt := 81) hx hb dX12_put_72 (by decide) (fun hc13 => ?_) (fun hc13 => ?_)
          · replace hw := hw.2 hc13
            refine lv_iload_n hx hb dX12_put_81 rfl (lv_at hl 3 rfl) ?_
            refine lv_i2l hx hb dX12_put_82 rfl ?_
            obtain ⟨hi_14, hw⟩ := hw
            refine k_lst hx hb hK hH (hn _ (by decide)) (fun _ => Er_s) hi_14 dX12_put_83 (fun S15 H locs eS15 hH => ?_)
            replace hw := hw S15 eS15
            refine lv_iconst (v := 1) hx hb dX12_put_84 (by decide +kernel) ?_
            exact k_iret hx hb hr hlocks hK hN hH hw dX12_put_85
          · replace hw := hw.1 hc13
            refine lv_iload_n hx hb dX12_put_75 rfl (lv_at hl 3 rfl) ?_
            refine lv_i2s hx hb dX12_put_76 rfl ?_
            refine lv_i2l hx hb dX12_put_77 rfl ?_
            refine lv_goto (tgt := 83) hx hb dX12_put_78 (by decide) ?_
            obtain ⟨hi_16, hw⟩ := hw
            refine k_lst hx hb hK hH (hn _ (by decide)) (fun _ => Er_s) hi_16 dX12_put_83 (fun S17 H locs eS17 hH => ?_)
            replace hw := hw S17 eS17
            refine lv_iconst (v := 1) hx hb dX12_put_84 (by decide +kernel) ?_
            exact k_iret hx hb hr hlocks hK hN hH hw dX12_put_85
        · replace hw := hw.1 hc11
          refine lv_iload_n hx hb dX12_put_59 rfl (lv_at hl 3 rfl) ?_
          refine lv_i2b hx hb dX12_put_60 rfl ?_
          refine lv_i2l hx hb dX12_put_61 rfl ?_
          refine lv_goto (tgt := 83) hx hb dX12_put_62 (by decide) ?_
          obtain ⟨hi_18, hw⟩ := hw
          refine k_lst hx hb hK hH (hn _ (by decide)) (fun _ => Er_s) hi_18 dX12_put_83 (fun S19 H locs eS19 hH => ?_)
          replace hw := hw S19 eS19
          refine lv_iconst (v := 1) hx hb dX12_put_84 (by decide +kernel) ?_
          exact k_iret hx hb hr hlocks hK hN hH hw dX12_put_85
      · replace hw := hw.1 hc9
        refine lv_bipush (v := -12) hx hb dX12_put_37 (by decide +kernel) ?_
        exact k_iret hx hb hr hlocks hK hN hH hw dX12_put_39
    · replace hw := hw.2 hc5
      refine lv_bipush (v := -11) hx hb dX12_put_18 (by decide +kernel) ?_
      exact k_iret hx hb hr hlocks hK hN hH hw dX12_put_20
  · replace hw := hw.1 hc3
    refine lv_iconst (v := -1) hx hb dX12_put_7 (by decide +kernel) ?_
    exact k_iret hx hb hr hlocks hK hN hH hw dX12_put_8
def wp_X12_item (a1 : Int32) (a2 : Int32) (a3 : Int32) (S : St) (Q : Int32 → St → Prop) : Prop := wp_X12_isShelf a1 S (fun r2 S1 => ((r2 = 0 → Q (-1 : Int32) S1) ∧ (¬ r2 = 0 → wp_X12_in a2 (0 : Int32) (3 : Int32) S1 (fun r5 S4 => ((r5 = 0 → Q (-1 : Int32) S4) ∧ (¬ r5 = 0 → wp_X12_lacksSort a1 a2 S4 (fun r8 S7 => ((r8 = 0 → (vp_in a1 4 ∧ wp_X12_in a3 (0 : Int32) ((gA S7 12 a1.toNatClampNeg) - (1 : Int32)) S7 (fun r12 S11 => ((r12 = 0 → Q (-12 : Int32) S11) ∧ (¬ r12 = 0 → (vp_in (((40 : Int32) * a1) + a3) 160 ∧ Q ((gL S11 13 (((40 : Int32) * a1) + a3).toNatClampNeg).toInt32) S11)))))) ∧ (¬ r8 = 0 → Q r8 S7)))))))))
set_option maxHeartbeats 4000000 in
set_option maxRecDepth 100000 in
theorem c_X12_item (l : Launch) (D : va_G) (kA : Nat → ClassId) (ly : Nat → Nat) (n : List Nat) (hn : ∀ c, c < 20 → c ∈ n) (A : Nat → Prop) (a1 : Int32) (a2 : Int32) (a3 : Int32) : Ci l yX12_item wsX12_item 2 42 (Gp D (Er kA ly) ly n A kA) A [.ref (ly 0), .int a1, .int a2, .int a3] (wp_X12_item a1 a2 a3) := by
  intro S Q
  refine Met.ofW (cc := cX12_item) (maxL := 5) (ret := (some .int)) (by decide) rfl ?_
  intro p e s m args below meth c s₁ B hml hv
  obtain ⟨rfl, ⟨hP, hD, hK, hN⟩, hw⟩ := hv
  have hx := B.exec
  have hb := B.bytes
  have hr := B.returns
  have hts := atoms_spec (ws := wsX12_item) B.pre
  have hown : s.vm.findClass RX12 = some m.cls := findClass_of_methodNamed B.named
  have hlocks := B.notSynchronized
  have hH : Hp D (Er kA ly) ly n A s.heap S s.heap [] := ⟨hP, hD, va_S.rf⟩
  have hiX12 : ∀ w ∈ u_ws RX12 TX12 39, w ∈ wsX12_item := by decide +kernel
  have lk0 := hts (.fieldLink RX12 47 "SlowPanesModel" "sizes" "[I") (by decide +kernel)
  have lk1 := hts (.fieldLink RX12 50 "SlowPanesModel" "sheets" "[J") (by decide +kernel)
  have hl := lv_entry ([.ref (ly 0), .int a1, .int a2, .int a3]) (n := 5) (Nat.le_of_ble_eq_true rfl)
  rw [lg_entry_eq]
  generalize (lg_sl ([.ref (ly 0), .int a1, .int a2, .int a3]) ++ List.replicate (5 - (lg_sl ([.ref (ly 0), .int a1, .int a2, .int a3])).length) Slot.unset).toArray = ls at hl ⊢
  have hl : lv_has ls 5 [(0, .ref (ly 0)), (1, .int a1), (2, .int a2), (3, .int a3)] := hl
  rw [wp_X12_item] at hw
  refine lv_iload_n hx hb dX12_item_0 rfl (lv_at hl 1 rfl) ?_
  refine k_afti (va_runS (As := [.int a1]) (rest := []) ⟨hx, hb, hml, hown, hts⟩ (c_X12_isShelf l D kA ly n hn A a1 S _) (va_cwS 1 hts gX12_item_X12_isShelf rfl rfl rfl (by decide +kernel) ⟨(Nat.le_of_ble_eq_true rfl), (Nat.le_of_ble_eq_true rfl)⟩) ⟨k_blind, k_pre hK hN hH hw⟩ rfl rfl hl.1 rfl (lv_room (Nat.le_of_ble_eq_true rfl)) dX12_item_1 ⟨Nat.le_refl _, Nat.le_refl _⟩) hH (fun r2 S1 H locs hw hH => ?_)
  refine lv_if_eq (tgt := 16) hx hb dX12_item_4 (by decide) (fun hc3 => ?_) (fun hc3 => ?_)
  · replace hw := hw.1 hc3
    refine lv_iconst (v := -1) hx hb dX12_item_16 (by decide +kernel) ?_
    exact k_iret hx hb hr hlocks hK hN hH hw dX12_item_17
  · replace hw := hw.2 hc3
    refine lv_iload_n hx hb dX12_item_7 rfl (lv_at hl 2 rfl) ?_
    refine lv_iconst (v := 0) hx hb dX12_item_8 (by decide +kernel) ?_
    refine lv_iconst (v := 3) hx hb dX12_item_9 (by decide +kernel) ?_
    refine k_afti (va_runS (As := [.int a2, .int (0 : Int32), .int (3 : Int32)]) (rest := []) ⟨hx, hb, hml, hown, hts⟩ (c_X12_in l D kA ly n hn A a2 (0 : Int32) (3 : Int32) S1 _) (va_cwS 3 hts gX12_item_X12_in rfl rfl rfl (by decide +kernel) ⟨(Nat.le_of_ble_eq_true rfl), (Nat.le_of_ble_eq_true rfl)⟩) ⟨k_blind, k_pre hK hN hH hw⟩ rfl rfl hl.1 rfl (lv_room (Nat.le_of_ble_eq_true rfl)) dX12_item_10 ⟨Nat.le_refl _, Nat.le_refl _⟩) hH (fun r5 S4 H locs hw hH => ?_)
    refine lv_if_ne (tgt := 18) hx hb dX12_item_13 (by decide) (fun hc6 => ?_) (fun hc6 => ?_)
    · replace hw := hw.2 hc6
      refine lv_aload_n hx hb dX12_item_18 rfl (lv_at hl 0 rfl) ?_
      refine lv_iload_n hx hb dX12_item_19 rfl (lv_at hl 1 rfl) ?_
      refine lv_iload_n hx hb dX12_item_20 rfl (lv_at hl 2 rfl) ?_
      refine k_afti (va_runV (As := [.int a1, .int a2]) (rest := []) ⟨hx, hb, hml, hown, hts⟩ (c_X12_lacksSort l D kA ly n hn A a1 a2 S4 _) (cwV 2 hts gX12_item_X12_lacksSort rfl rfl rfl (by decide +kernel) ⟨(Nat.le_of_ble_eq_true rfl), (Nat.le_of_ble_eq_true rfl)⟩) ⟨k_blind, (k_recv hK hH (hn _ (by decide)) Er_0 rfl), k_pre hK hN hH hw⟩ rfl rfl hl.1 rfl (lv_room (Nat.le_of_ble_eq_true rfl)) dX12_item_21 ⟨Nat.le_refl _, Nat.le_refl _⟩) hH (fun r8 S7 H locs hw hH => ?_)
      refine lv_istore (lv' := [(4, .int r8), (0, .ref (ly 0)), (1, .int a1), (2, .int a2), (3, .int a3)]) hx hb dX12_item_24 hl (by decide) rfl (fun ls hl => ?_)
      refine lv_iload hx hb dX12_item_26 (lv_at hl 0 rfl) ?_
      refine lv_if_eq (tgt := 34) hx hb dX12_item_28 (by decide) (fun hc9 => ?_) (fun hc9 => ?_)
      · replace hw := hw.1 hc9
        refine lv_iload_n hx hb dX12_item_34 rfl (lv_at hl 4 rfl) ?_
        refine lv_iconst (v := 0) hx hb dX12_item_35 (by decide +kernel) ?_
        refine lv_aload_n hx hb dX12_item_36 rfl (lv_at hl 1 rfl) ?_
        refine gf_r_24 hx hb hts hiX12 hown hK hn hH lk0 dX12_item_37 ?_
        refine lv_iload_n hx hb dX12_item_40 rfl (lv_at hl 2 rfl) ?_
        obtain ⟨hi_10, hw⟩ := hw
        refine k_ild hx hb hK hH (hn _ (by decide)) Er_12 hi_10 dX12_item_41 ?_
        refine lv_iconst (v := 1) hx hb dX12_item_42 (by decide +kernel) ?_
        refine lv_isub hx hb dX12_item_43 ?_
        refine k_afti (va_runS (As := [.int a3, .int (0 : Int32), .int ((gA S7 12 a1.toNatClampNeg) - (1 : Int32))]) (rest := []) ⟨hx, hb, hml, hown, hts⟩ (c_X12_in l D kA ly n hn A a3 (0 : Int32) ((gA S7 12 a1.toNatClampNeg) - (1 : Int32)) S7 _) (va_cwS 3 hts gX12_item_X12_in rfl rfl rfl (by decide +kernel) ⟨(Nat.le_of_ble_eq_true rfl), (Nat.le_of_ble_eq_true rfl)⟩) ⟨k_blind, k_pre hK hN hH hw⟩ rfl rfl hl.1 rfl (lv_room (Nat.le_of_ble_eq_true rfl)) dX12_item_44 ⟨Nat.le_refl _, Nat.le_refl _⟩) hH (fun r12 S11 H locs hw hH => ?_)
        refine lv_if_eq (tgt := 65) hx hb dX12_item_47 (by decide) (fun hc13 => ?_) (fun hc13 => ?_)
        · replace hw := hw.1 hc13
          refine lv_bipush (v := -12) hx hb dX12_item_65 (by decide +kernel) ?_
          exact k_iret hx hb hr hlocks hK hN hH hw dX12_item_67
        · replace hw := hw.2 hc13
          refine lv_aload_n hx hb dX12_item_50 rfl (lv_at hl 1 rfl) ?_
          refine gf_r_25 hx hb hts hiX12 hown hK hn hH lk1 dX12_item_51 ?_
          refine lv_bipush (v := 40) hx hb dX12_item_54 (by decide +kernel) ?_
          refine lv_iload_n hx hb dX12_item_56 rfl (lv_at hl 2 rfl) ?_
          refine lv_imul hx hb dX12_item_57 ?_
          refine lv_iload_n hx hb dX12_item_58 rfl (lv_at hl 4 rfl) ?_
          refine lv_iadd hx hb dX12_item_59 ?_
          obtain ⟨hi_14, hw⟩ := hw
          refine k_lld hx hb hK hH (hn _ (by decide)) Er_s hi_14 dX12_item_60 ?_
          refine lv_l2i hx hb dX12_item_61 rfl ?_
          refine lv_goto (tgt := 67) hx hb dX12_item_62 (by decide) ?_
          exact k_iret hx hb hr hlocks hK hN hH hw dX12_item_67
      · replace hw := hw.2 hc9
        refine lv_iload hx hb dX12_item_31 (lv_at hl 0 rfl) ?_
        exact k_iret hx hb hr hlocks hK hN hH hw dX12_item_33
    · replace hw := hw.1 hc6
      refine lv_iconst (v := -1) hx hb dX12_item_16 (by decide +kernel) ?_
      exact k_iret hx hb hr hlocks hK hN hH hw dX12_item_17
def wp_X12_isHeld (a1 : Int32) (a2 : Int32) (S : St) (Q : Int32 → St → Prop) : Prop := ((a1 = 0 → wp_X12_isPane a2 S (fun r7 S6 => (isB r7 ∧ Q r7 S6))) ∧ (¬ a1 = 0 → ((a1 = (1 : Int32) → wp_X12_isShelf a2 S (fun r5 S4 => (isB r5 ∧ Q r5 S4))) ∧ (¬ a1 = (1 : Int32) → ((a1 = (2 : Int32) → Q (1 : Int32) S) ∧ (¬ a1 = (2 : Int32) → Q (0 : Int32) S))))))
set_option maxHeartbeats 4000000 in
set_option maxRecDepth 100000 in
theorem c_X12_isHeld (l : Launch) (D : va_G) (kA : Nat → ClassId) (ly : Nat → Nat) (n : List Nat) (hn : ∀ c, c < 20 → c ∈ n) (A : Nat → Prop) (a1 : Int32) (a2 : Int32) : Ci l yX12_isHeld wsX12_isHeld 2 43 (Gp D (Er kA ly) ly n A kA) A [.ref (ly 0), .int a1, .int a2] (wp_X12_isHeld a1 a2) := by
  intro S Q
  refine Met.ofW (cc := cX12_isHeld) (maxL := 3) (ret := (some .boolean)) (by decide) rfl ?_
  intro p e s m args below meth c s₁ B hml hv
  obtain ⟨rfl, ⟨hP, hD, hK, hN⟩, hw⟩ := hv
  have hx := B.exec
  have hb := B.bytes
  have hr := B.returns
  have hts := atoms_spec (ws := wsX12_isHeld) B.pre
  have hown : s.vm.findClass RX12 = some m.cls := findClass_of_methodNamed B.named
  have hlocks := B.notSynchronized
  have hH : Hp D (Er kA ly) ly n A s.heap S s.heap [] := ⟨hP, hD, va_S.rf⟩
  have hl := lv_entry ([.ref (ly 0), .int a1, .int a2]) (n := 3) (Nat.le_of_ble_eq_true rfl)
  rw [lg_entry_eq]
  generalize (lg_sl ([.ref (ly 0), .int a1, .int a2]) ++ List.replicate (3 - (lg_sl ([.ref (ly 0), .int a1, .int a2])).length) Slot.unset).toArray = ls at hl ⊢
  have hl : lv_has ls 3 [(0, .ref (ly 0)), (1, .int a1), (2, .int a2)] := hl
  rw [wp_X12_isHeld] at hw
  refine lv_iload_n hx hb dX12_isHeld_0 rfl (lv_at hl 1 rfl) ?_
  refine lv_if_ne (tgt := 12) hx hb dX12_isHeld_1 (by decide) (fun hc1 => ?_) (fun hc1 => ?_)
  · replace hw := hw.2 hc1
    refine lv_iload_n hx hb dX12_isHeld_12 rfl (lv_at hl 1 rfl) ?_
    refine lv_iconst (v := 1) hx hb dX12_isHeld_13 (by decide +kernel) ?_
    refine lv_icmp_ne (tgt := 24) hx hb dX12_isHeld_14 (by decide) (fun hc2 => ?_) (fun hc2 => ?_)
    · replace hw := hw.2 hc2
      refine lv_iload_n hx hb dX12_isHeld_24 rfl (lv_at hl 1 rfl) ?_
      refine lv_iconst (v := 2) hx hb dX12_isHeld_25 (by decide +kernel) ?_
      refine lv_icmp_ne (tgt := 33) hx hb dX12_isHeld_26 (by decide) (fun hc3 => ?_) (fun hc3 => ?_)
      · replace hw := hw.2 hc3
        refine lv_iconst (v := 0) hx hb dX12_isHeld_33 (by decide +kernel) ?_
        exact k_zret hx hb hr hlocks hK hN hH rfl hw dX12_isHeld_34
      · replace hw := hw.1 hc3
        refine lv_iconst (v := 1) hx hb dX12_isHeld_29 (by decide +kernel) ?_
        refine lv_goto (tgt := 34) hx hb dX12_isHeld_30 (by decide) ?_
        exact k_zret hx hb hr hlocks hK hN hH rfl hw dX12_isHeld_34
    · replace hw := hw.1 hc2
      refine lv_iload_n hx hb dX12_isHeld_17 rfl (lv_at hl 2 rfl) ?_
      refine k_afti (va_runS (As := [.int a2]) (rest := []) ⟨hx, hb, hml, hown, hts⟩ (c_X12_isShelf l D kA ly n hn A a2 S _) (va_cwS 1 hts gX12_isHeld_X12_isShelf rfl rfl rfl (by decide +kernel) ⟨(Nat.le_of_ble_eq_true rfl), (Nat.le_of_ble_eq_true rfl)⟩) ⟨k_blind, k_pre hK hN hH hw⟩ rfl rfl hl.1 rfl (lv_room (Nat.le_of_ble_eq_true rfl)) dX12_isHeld_18 ⟨Nat.le_refl _, Nat.le_refl _⟩) hH (fun r5 S4 H locs hw hH => ?_)
      refine lv_goto (tgt := 34) hx hb dX12_isHeld_21 (by decide) ?_
      exact k_zret hx hb hr hlocks hK hN hH (isB_n hw.1) hw.2 dX12_isHeld_34
  · replace hw := hw.1 hc1
    refine lv_aload_n hx hb dX12_isHeld_4 rfl (lv_at hl 0 rfl) ?_
    refine lv_iload_n hx hb dX12_isHeld_5 rfl (lv_at hl 2 rfl) ?_
    refine k_afti (va_runV (As := [.int a2]) (rest := []) ⟨hx, hb, hml, hown, hts⟩ (c_X12_isPane l D kA ly n hn A a2 S _) (cwV 1 hts gX12_isHeld_X12_isPane rfl rfl rfl (by decide +kernel) ⟨(Nat.le_of_ble_eq_true rfl), (Nat.le_of_ble_eq_true rfl)⟩) ⟨k_blind, (k_recv hK hH (hn _ (by decide)) Er_0 rfl), k_pre hK hN hH hw⟩ rfl rfl hl.1 rfl (lv_room (Nat.le_of_ble_eq_true rfl)) dX12_isHeld_6 ⟨Nat.le_refl _, Nat.le_refl _⟩) hH (fun r7 S6 H locs hw hH => ?_)
    refine lv_goto (tgt := 34) hx hb dX12_isHeld_9 (by decide) ?_
    exact k_zret hx hb hr hlocks hK hN hH (isB_n hw.1) hw.2 dX12_isHeld_34
def wj_X12_shelf_68 (a1 : Int32) (a2 : Int32) (a3 : Int32) (Q : Int32 → St → Prop)  (q0_68 : Int32) (q1_68 : Int32) (S_68 : St) : Prop := (vp_in q1_68 4 ∧ ∀ S10 : St, S10 = sA S_68 15 q1_68.toNatClampNeg q0_68 → ((a2 = (1 : Int32) → (vp_in a3 4 ∧ (vp_in a1 4 ∧ ∀ S16 : St, S16 = sA S10 16 a1.toNatClampNeg (gA S10 12 a3.toNatClampNeg) → Q (1 : Int32) S16))) ∧ (¬ a2 = (1 : Int32) → (vp_in a1 4 ∧ ∀ S13 : St, S13 = sA S10 16 a1.toNatClampNeg (0 : Int32) → Q (1 : Int32) S13))))
def wj_X12_shelf_47 (a1 : Int32) (a2 : Int32) (a3 : Int32) (Q : Int32 → St → Prop)  (q0_47 : Int32) (q1_47 : Int32) (S_47 : St) : Prop := (vp_in q1_47 4 ∧ ∀ S8 : St, S8 = sA S_47 14 q1_47.toNatClampNeg q0_47 → ((a2 = (1 : Int32) → (vp_in a3 4 ∧ wj_X12_shelf_68 a1 a2 a3 Q (gA S8 11 a3.toNatClampNeg) a1 S8)) ∧ (¬ a2 = (1 : Int32) → wj_X12_shelf_68 a1 a2 a3 Q a3 a1 S8)))
def wj_X12_shelf_42 (a1 : Int32) (a2 : Int32) (a3 : Int32) (Q : Int32 → St → Prop)  (q0_42 : Int32) (S_42 : St) : Prop := wj_X12_shelf_47 a1 a2 a3 Q (-1 : Int32) q0_42 S_42
def wj_X12_shelf_46 (a1 : Int32) (a2 : Int32) (a3 : Int32) (Q : Int32 → St → Prop)  (q0_46 : Int32) (S_46 : St) : Prop := wj_X12_shelf_47 a1 a2 a3 Q a2 q0_46 S_46
def wp_X12_shelf (a1 : Int32) (a2 : Int32) (a3 : Int32) (S : St) (Q : Int32 → St → Prop) : Prop := wp_X12_isShelf a1 S (fun r2 S1 => ((r2 = 0 → Q (-1 : Int32) S1) ∧ (¬ r2 = 0 → wp_X12_isHeld a2 a3 S1 (fun r5 S4 => ((r5 = 0 → Q (-1 : Int32) S4) ∧ (¬ r5 = 0 → ((a2 = (2 : Int32) → wj_X12_shelf_42 a1 a2 a3 Q a1 S4) ∧ (¬ a2 = (2 : Int32) → ((a2 = (1 : Int32) → (vp_in a3 4 ∧ ((0 ≤ (gA S4 11 a3.toNatClampNeg) → wj_X12_shelf_46 a1 a2 a3 Q a1 S4) ∧ (¬ 0 ≤ (gA S4 11 a3.toNatClampNeg) → wj_X12_shelf_42 a1 a2 a3 Q a1 S4)))) ∧ (¬ a2 = (1 : Int32) → wj_X12_shelf_46 a1 a2 a3 Q a1 S4))))))))))
set_option maxHeartbeats 4000000 in
set_option maxRecDepth 100000 in
theorem c_X12_shelf (l : Launch) (D : va_G) (kA : Nat → ClassId) (ly : Nat → Nat) (n : List Nat) (hn : ∀ c, c < 20 → c ∈ n) (A : Nat → Prop) (a1 : Int32) (a2 : Int32) (a3 : Int32) : Ci l yX12_shelf wsX12_shelf 3 65 (Gp D (Er kA ly) ly n A kA) A [.ref (ly 0), .int a1, .int a2, .int a3] (wp_X12_shelf a1 a2 a3) := by
  intro S Q
  refine Met.ofW (cc := cX12_shelf) (maxL := 4) (ret := (some .int)) (by decide) rfl ?_
  intro p e s m args below meth c s₁ B hml hv
  obtain ⟨rfl, ⟨hP, hD, hK, hN⟩, hw⟩ := hv
  have hx := B.exec
  have hb := B.bytes
  have hr := B.returns
  have hts := atoms_spec (ws := wsX12_shelf) B.pre
  have hown : s.vm.findClass RX12 = some m.cls := findClass_of_methodNamed B.named
  have hlocks := B.notSynchronized
  have hH : Hp D (Er kA ly) ly n A s.heap S s.heap [] := ⟨hP, hD, va_S.rf⟩
  have hiX12 : ∀ w ∈ u_ws RX12 TX12 39, w ∈ wsX12_shelf := by decide +kernel
  have lk0 := hts (.fieldLink RX12 54 "SlowPanesModel" "held" "[I") (by decide +kernel)
  have lk1 := hts (.fieldLink RX12 57 "SlowPanesModel" "heldNumber" "[I") (by decide +kernel)
  have lk2 := hts (.fieldLink RX12 60 "SlowPanesModel" "heldSize" "[I") (by decide +kernel)
  have lk3 := hts (.fieldLink RX12 47 "SlowPanesModel" "sizes" "[I") (by decide +kernel)
  have lk4 := hts (.fieldLink RX12 44 "SlowPanesModel" "sorts" "[I") (by decide +kernel)
  have hl := lv_entry ([.ref (ly 0), .int a1, .int a2, .int a3]) (n := 4) (Nat.le_of_ble_eq_true rfl)
  rw [lg_entry_eq]
  generalize (lg_sl ([.ref (ly 0), .int a1, .int a2, .int a3]) ++ List.replicate (4 - (lg_sl ([.ref (ly 0), .int a1, .int a2, .int a3])).length) Slot.unset).toArray = ls at hl ⊢
  have hl : lv_has ls 4 [(0, .ref (ly 0)), (1, .int a1), (2, .int a2), (3, .int a3)] := hl
  rw [wp_X12_shelf] at hw
  refine lv_iload_n hx hb dX12_shelf_0 rfl (lv_at hl 1 rfl) ?_
  refine k_afti (va_runS (As := [.int a1]) (rest := []) ⟨hx, hb, hml, hown, hts⟩ (c_X12_isShelf l D kA ly n hn A a1 S _) (va_cwS 1 hts gX12_shelf_X12_isShelf rfl rfl rfl (by decide +kernel) ⟨(Nat.le_of_ble_eq_true rfl), (Nat.le_of_ble_eq_true rfl)⟩) ⟨k_blind, k_pre hK hN hH hw⟩ rfl rfl hl.1 rfl (lv_room (Nat.le_of_ble_eq_true rfl)) dX12_shelf_1 ⟨Nat.le_refl _, Nat.le_refl _⟩) hH (fun r2 S1 H locs hw hH => ?_)
  refine lv_if_eq (tgt := 16) hx hb dX12_shelf_4 (by decide) (fun hc3 => ?_) (fun hc3 => ?_)
  · replace hw := hw.1 hc3
    refine lv_iconst (v := -1) hx hb dX12_shelf_16 (by decide +kernel) ?_
    exact k_iret hx hb hr hlocks hK hN hH hw dX12_shelf_17
  · replace hw := hw.2 hc3
    refine lv_aload_n hx hb dX12_shelf_7 rfl (lv_at hl 0 rfl) ?_
    refine lv_iload_n hx hb dX12_shelf_8 rfl (lv_at hl 2 rfl) ?_
    refine lv_iload_n hx hb dX12_shelf_9 rfl (lv_at hl 3 rfl) ?_
    refine k_afti (va_runV (As := [.int a2, .int a3]) (rest := []) ⟨hx, hb, hml, hown, hts⟩ (c_X12_isHeld l D kA ly n hn A a2 a3 S1 _) (cwV 2 hts gX12_shelf_X12_isHeld rfl rfl rfl (by decide +kernel) ⟨(Nat.le_of_ble_eq_true rfl), (Nat.le_of_ble_eq_true rfl)⟩) ⟨k_blind, (k_recv hK hH (hn _ (by decide)) Er_0 rfl), k_pre hK hN hH hw⟩ rfl rfl hl.1 rfl (lv_room (Nat.le_of_ble_eq_true rfl)) dX12_shelf_10 ⟨Nat.le_refl _, Nat.le_refl _⟩) hH (fun r5 S4 H locs hw hH => ?_)
    refine lv_if_ne (tgt := 18) hx hb dX12_shelf_13 (by decide) (fun hc6 => ?_) (fun hc6 => ?_)
    · replace hw := hw.2 hc6
      refine lv_aload_n hx hb dX12_shelf_18 rfl (lv_at hl 0 rfl) ?_
      refine gf_r_26 hx hb hts hiX12 hown hK hn hH lk0 dX12_shelf_19 ?_
      refine lv_iload_n hx hb dX12_shelf_22 rfl (lv_at hl 1 rfl) ?_
      refine lv_iload_n hx hb dX12_shelf_23 rfl (lv_at hl 2 rfl) ?_
      refine lv_iconst (v := 2) hx hb dX12_shelf_24 (by decide +kernel) ?_
      have J_47 : ∀ (q0_47 : Int32) (q1_47 : Int32) (S_47 : St) (H : Heap) (locs : List Loc) (ls : Array Slot), wj_X12_shelf_47 a1 a2 a3 Q q0_47 q1_47 S_47 → Hp D (Er kA ly) ly n A s.heap S_47 H locs → lv_has ls 4 [(0, .ref (ly 0)), (1, .int a1), (2, .int a2), (3, .int a3)] → W p l e (headSpec wsX12_shelf { frames := 3, cells := 0, slots := 0, locals := 65 }).room s m [.ref (ly 0), .int a1, .int a2, .int a3].toArray below meth c H locs 0 0 (MQ below (va_Qi Q (Gp D (Er kA ly) ly n A kA) A) [.ref (ly 0), .int a1, .int a2, .int a3].toArray s 0 0 A) (F0 m 47 ls [.int q0_47, .int q1_47, .ref (ly 14)]) := by
        intro q0_47 q1_47 S_47 H locs ls hw hH hl
        rw [wj_X12_shelf_47] at hw
        obtain ⟨hi_7, hw⟩ := hw
        refine k_ist hx hb hK hH (hn _ (by decide)) (fun _ => Er_14) hi_7 dX12_shelf_47 (fun S8 H locs eS8 hH => ?_)
        replace hw := hw S8 eS8
        refine lv_aload_n hx hb dX12_shelf_48 rfl (lv_at hl 0 rfl) ?_
        refine gf_r_27 hx hb hts hiX12 hown hK hn hH lk1 dX12_shelf_49 ?_
        refine lv_iload_n hx hb dX12_shelf_52 rfl (lv_at hl 1 rfl) ?_
        refine lv_iload_n hx hb dX12_shelf_53 rfl (lv_at hl 2 rfl) ?_
        refine lv_iconst (v := 1) hx hb dX12_shelf_54 (by decide +kernel) ?_
        have J_68 : ∀ (q0_68 : Int32) (q1_68 : Int32) (S_68 : St) (H : Heap) (locs : List Loc) (ls : Array Slot), wj_X12_shelf_68 a1 a2 a3 Q q0_68 q1_68 S_68 → Hp D (Er kA ly) ly n A s.heap S_68 H locs → lv_has ls 4 [(0, .ref (ly 0)), (1, .int a1), (2, .int a2), (3, .int a3)] → W p l e (headSpec wsX12_shelf { frames := 3, cells := 0, slots := 0, locals := 65 }).room s m [.ref (ly 0), .int a1, .int a2, .int a3].toArray below meth c H locs 0 0 (MQ below (va_Qi Q (Gp D (Er kA ly) ly n A kA) A) [.ref (ly 0), .int a1, .int a2, .int a3].toArray s 0 0 A) (F0 m 68 ls [.int q0_68, .int q1_68, .ref (ly 15)]) := by
          intro q0_68 q1_68 S_68 H locs ls hw hH hl
          rw [wj_X12_shelf_68] at hw
          obtain ⟨hi_9, hw⟩ := hw
          refine k_ist hx hb hK hH (hn _ (by decide)) (fun _ => Er_15) hi_9 dX12_shelf_68 (fun S10 H locs eS10 hH => ?_)
          replace hw := hw S10 eS10
          refine lv_aload_n hx hb dX12_shelf_69 rfl (lv_at hl 0 rfl) ?_
          refine gf_r_28 hx hb hts hiX12 hown hK hn hH lk2 dX12_shelf_70 ?_
          refine lv_iload_n hx hb dX12_shelf_73 rfl (lv_at hl 1 rfl) ?_
          refine lv_iload_n hx hb dX12_shelf_74 rfl (lv_at hl 2 rfl) ?_
          refine lv_iconst (v := 1) hx hb dX12_shelf_75 (by decide +kernel) ?_
          refine lv_icmp_ne (tgt := 88) hx hb dX12_shelf_76 (by decide) (fun hc11 => ?_) (fun hc11 => ?_)
          · replace hw := hw.2 hc11
            refine lv_iconst (v := 0) hx hb dX12_shelf_88 (by decide +kernel) ?_
            obtain ⟨hi_12, hw⟩ := hw
            refine k_ist hx hb hK hH (hn _ (by decide)) (fun _ => Er_16) hi_12 dX12_shelf_89 (fun S13 H locs eS13 hH => ?_)
            replace hw := hw S13 eS13
            refine lv_iconst (v := 1) hx hb dX12_shelf_90 (by decide +kernel) ?_
            exact k_iret hx hb hr hlocks hK hN hH hw dX12_shelf_91
          · replace hw := hw.1 hc11
            refine lv_aload_n hx hb dX12_shelf_79 rfl (lv_at hl 0 rfl) ?_
            refine gf_r_24 hx hb hts hiX12 hown hK hn hH lk3 dX12_shelf_80 ?_
            refine lv_iload_n hx hb dX12_shelf_83 rfl (lv_at hl 3 rfl) ?_
            obtain ⟨hi_14, hw⟩ := hw
            refine k_ild hx hb hK hH (hn _ (by decide)) Er_12 hi_14 dX12_shelf_84 ?_
            refine lv_goto (tgt := 89) hx hb dX12_shelf_85 (by decide) ?_
            obtain ⟨hi_15, hw⟩ := hw
            refine k_ist hx hb hK hH (hn _ (by decide)) (fun _ => Er_16) hi_15 dX12_shelf_89 (fun S16 H locs eS16 hH => ?_)
            replace hw := hw S16 eS16
            refine lv_iconst (v := 1) hx hb dX12_shelf_90 (by decide +kernel) ?_
            exact k_iret hx hb hr hlocks hK hN hH hw dX12_shelf_91
        refine lv_icmp_ne (tgt := 67) hx hb dX12_shelf_55 (by decide) (fun hc17 => ?_) (fun hc17 => ?_)
        · replace hw := hw.2 hc17
          refine lv_iload_n hx hb dX12_shelf_67 rfl (lv_at hl 3 rfl) ?_
          exact J_68 a3 a1 S8 _ _ ls hw hH (lv_sub hl [0, 1, 2, 3] rfl)
        · replace hw := hw.1 hc17
          refine lv_aload_n hx hb dX12_shelf_58 rfl (lv_at hl 0 rfl) ?_
          refine gf_r_23 hx hb hts hiX12 hown hK hn hH lk4 dX12_shelf_59 ?_
          refine lv_iload_n hx hb dX12_shelf_62 rfl (lv_at hl 3 rfl) ?_
          obtain ⟨hi_18, hw⟩ := hw
          refine k_ild hx hb hK hH (hn _ (by decide)) Er_11 hi_18 dX12_shelf_63 ?_
          refine lv_goto (tgt := 68) hx hb dX12_shelf_64 (by decide) ?_
          exact J_68 (gA S8 11 a3.toNatClampNeg) a1 S8 _ _ ls hw hH (lv_sub hl [0, 1, 2, 3] rfl)
      have J_42 : ∀ (q0_42 : Int32) (S_42 : St) (H : Heap) (locs : List Loc) (ls : Array Slot), wj_X12_shelf_42 a1 a2 a3 Q q0_42 S_42 → Hp D (Er kA ly) ly n A s.heap S_42 H locs → lv_has ls 4 [(0, .ref (ly 0)), (1, .int a1), (2, .int a2), (3, .int a3)] → W p l e (headSpec wsX12_shelf { frames := 3, cells := 0, slots := 0, locals := 65 }).room s m [.ref (ly 0), .int a1, .int a2, .int a3].toArray below meth c H locs 0 0 (MQ below (va_Qi Q (Gp D (Er kA ly) ly n A kA) A) [.ref (ly 0), .int a1, .int a2, .int a3].toArray s 0 0 A) (F0 m 42 ls [.int q0_42, .ref (ly 14)]) := by
        intro q0_42 S_42 H locs ls hw hH hl
        rw [wj_X12_shelf_42] at hw
        refine lv_iconst (v := -1) hx hb dX12_shelf_42 (by decide +kernel) ?_
        refine lv_goto (tgt := 47) hx hb dX12_shelf_43 (by decide) ?_
        exact J_47 (-1 : Int32) q0_42 S_42 _ _ ls hw hH (lv_sub hl [0, 1, 2, 3] rfl)
      refine lv_icmp_eq (tgt := 42) hx hb dX12_shelf_25 (by decide) (fun hc19 => ?_) (fun hc19 => ?_)
      · replace hw := hw.1 hc19
        exact J_42 a1 S4 _ _ ls hw hH (lv_sub hl [0, 1, 2, 3] rfl)
      · replace hw := hw.2 hc19
        refine lv_iload_n hx hb dX12_shelf_28 rfl (lv_at hl 2 rfl) ?_
        refine lv_iconst (v := 1) hx hb dX12_shelf_29 (by decide +kernel) ?_
        have J_46 : ∀ (q0_46 : Int32) (S_46 : St) (H : Heap) (locs : List Loc) (ls : Array Slot), wj_X12_shelf_46 a1 a2 a3 Q q0_46 S_46 → Hp D (Er kA ly) ly n A s.heap S_46 H locs → lv_has ls 4 [(0, .ref (ly 0)), (1, .int a1), (2, .int a2), (3, .int a3)] → W p l e (headSpec wsX12_shelf { frames := 3, cells := 0, slots := 0, locals := 65 }).room s m [.ref (ly 0), .int a1, .int a2, .int a3].toArray below meth c H locs 0 0 (MQ below (va_Qi Q (Gp D (Er kA ly) ly n A kA) A) [.ref (ly 0), .int a1, .int a2, .int a3].toArray s 0 0 A) (F0 m 46 ls [.int q0_46, .ref (ly 14)]) := by
          intro q0_46 S_46 H locs ls hw hH hl
          rw [wj_X12_shelf_46] at hw
          refine lv_iload_n hx hb dX12_shelf_46 rfl (lv_at hl 2 rfl) ?_
          exact J_47 a2 q0_46 S_46 _ _ ls hw hH (lv_sub hl [0, 1, 2, 3] rfl)
        refine lv_icmp_ne (tgt := 46) hx hb dX12_shelf_30 (by decide) (fun hc20 => ?_) (fun hc20 => ?_)
        · replace hw := hw.2 hc20
          exact J_46 a1 S4 _ _ ls hw hH (lv_sub hl [0, 1, 2, 3] rfl)
        · replace hw := hw.1 hc20
          refine lv_aload_n hx hb dX12_shelf_33 rfl (lv_at hl 0 rfl) ?_
          refine gf_r_23 hx hb hts hiX12 hown hK hn hH lk4 dX12_shelf_34 ?_
          refine lv_iload_n hx hb dX12_shelf_37 rfl (lv_at hl 3 rfl) ?_
          obtain ⟨hi_21, hw⟩ := hw
          refine k_ild hx hb hK hH (hn _ (by decide)) Er_11 hi_21 dX12_shelf_38 ?_
          refine lv_if_ge (tgt := 46) hx hb dX12_shelf_39 (by decide) (fun hc22 => ?_) (fun hc22 => ?_)
          · replace hw := hw.1 hc22
            exact J_46 a1 S4 _ _ ls hw hH (lv_sub hl [0, 1, 2, 3] rfl)
          · replace hw := hw.2 hc22
            exact J_42 a1 S4 _ _ ls hw hH (lv_sub hl [0, 1, 2, 3] rfl)
    · replace hw := hw.1 hc6
      refine lv_iconst (v := -1) hx hb dX12_shelf_16 (by decide +kernel) ?_
      exact k_iret hx hb hr hlocks hK hN hH hw dX12_shelf_17
def wp_X12_kindOn (a1 : Int32) (S : St) (Q : Int32 → St → Prop) : Prop := (vp_in a1 4 ∧ (((gA S 14 a1.toNatClampNeg) = 0 → (vp_in a1 4 ∧ wp_X12_isPane (gA S 15 a1.toNatClampNeg) S (fun r5 S4 => ((r5 = 0 → Q (-1 : Int32) S4) ∧ (¬ r5 = 0 → (vp_in a1 4 ∧ wp_X12_its (gA S4 15 a1.toNatClampNeg) (0 : Int32) S4 (fun r9 S8 => Q r9 S8))))))) ∧ (¬ (gA S 14 a1.toNatClampNeg) = 0 → (vp_in a1 4 ∧ ((0 ≤ (gA S 14 a1.toNatClampNeg) → Q (9 : Int32) S) ∧ (¬ 0 ≤ (gA S 14 a1.toNatClampNeg) → Q (-1 : Int32) S))))))
set_option maxHeartbeats 4000000 in
set_option maxRecDepth 100000 in
theorem c_X12_kindOn (l : Launch) (D : va_G) (kA : Nat → ClassId) (ly : Nat → Nat) (n : List Nat) (hn : ∀ c, c < 20 → c ∈ n) (A : Nat → Prop) (a1 : Int32) : Ci l yX12_kindOn wsX12_kindOn 2 43 (Gp D (Er kA ly) ly n A kA) A [.ref (ly 0), .int a1] (wp_X12_kindOn a1) := by
  intro S Q
  refine Met.ofW (cc := cX12_kindOn) (maxL := 2) (ret := (some .int)) (by decide) rfl ?_
  intro p e s m args below meth c s₁ B hml hv
  obtain ⟨rfl, ⟨hP, hD, hK, hN⟩, hw⟩ := hv
  have hx := B.exec
  have hb := B.bytes
  have hr := B.returns
  have hts := atoms_spec (ws := wsX12_kindOn) B.pre
  have hown : s.vm.findClass RX12 = some m.cls := findClass_of_methodNamed B.named
  have hlocks := B.notSynchronized
  have hH : Hp D (Er kA ly) ly n A s.heap S s.heap [] := ⟨hP, hD, va_S.rf⟩
  have hiX12 : ∀ w ∈ u_ws RX12 TX12 39, w ∈ wsX12_kindOn := by decide +kernel
  have lk0 := hts (.fieldLink RX12 54 "SlowPanesModel" "held" "[I") (by decide +kernel)
  have lk1 := hts (.fieldLink RX12 57 "SlowPanesModel" "heldNumber" "[I") (by decide +kernel)
  have hl := lv_entry ([.ref (ly 0), .int a1]) (n := 2) (Nat.le_of_ble_eq_true rfl)
  rw [lg_entry_eq]
  generalize (lg_sl ([.ref (ly 0), .int a1]) ++ List.replicate (2 - (lg_sl ([.ref (ly 0), .int a1])).length) Slot.unset).toArray = ls at hl ⊢
  have hl : lv_has ls 2 [(0, .ref (ly 0)), (1, .int a1)] := hl
  rw [wp_X12_kindOn] at hw
  refine lv_aload_n hx hb dX12_kindOn_0 rfl (lv_at hl 0 rfl) ?_
  refine gf_r_26 hx hb hts hiX12 hown hK hn hH lk0 dX12_kindOn_1 ?_
  refine lv_iload_n hx hb dX12_kindOn_4 rfl (lv_at hl 1 rfl) ?_
  obtain ⟨hi_1, hw⟩ := hw
  refine k_ild hx hb hK hH (hn _ (by decide)) Er_14 hi_1 dX12_kindOn_5 ?_
  refine lv_if_eq (tgt := 25) hx hb dX12_kindOn_6 (by decide) (fun hc2 => ?_) (fun hc2 => ?_)
  · replace hw := hw.1 hc2
    refine lv_aload_n hx hb dX12_kindOn_25 rfl (lv_at hl 0 rfl) ?_
    refine lv_aload_n hx hb dX12_kindOn_26 rfl (lv_at hl 0 rfl) ?_
    refine gf_r_27 hx hb hts hiX12 hown hK hn hH lk1 dX12_kindOn_27 ?_
    refine lv_iload_n hx hb dX12_kindOn_30 rfl (lv_at hl 1 rfl) ?_
    obtain ⟨hi_3, hw⟩ := hw
    refine k_ild hx hb hK hH (hn _ (by decide)) Er_15 hi_3 dX12_kindOn_31 ?_
    refine k_afti (va_runV (As := [.int (gA S 15 a1.toNatClampNeg)]) (rest := []) ⟨hx, hb, hml, hown, hts⟩ (c_X12_isPane l D kA ly n hn A (gA S 15 a1.toNatClampNeg) S _) (cwV 1 hts gX12_kindOn_X12_isPane rfl rfl rfl (by decide +kernel) ⟨(Nat.le_of_ble_eq_true rfl), (Nat.le_of_ble_eq_true rfl)⟩) ⟨k_blind, (k_recv hK hH (hn _ (by decide)) Er_0 rfl), k_pre hK hN hH hw⟩ rfl rfl hl.1 rfl (lv_room (Nat.le_of_ble_eq_true rfl)) dX12_kindOn_32 ⟨Nat.le_refl _, Nat.le_refl _⟩) hH (fun r5 S4 H locs hw hH => ?_)
    refine lv_if_eq (tgt := 52) hx hb dX12_kindOn_35 (by decide) (fun hc6 => ?_) (fun hc6 => ?_)
    · replace hw := hw.1 hc6
      refine lv_iconst (v := -1) hx hb dX12_kindOn_52 (by decide +kernel) ?_
      exact k_iret hx hb hr hlocks hK hN hH hw dX12_kindOn_53
    · replace hw := hw.2 hc6
      refine lv_aload_n hx hb dX12_kindOn_38 rfl (lv_at hl 0 rfl) ?_
      refine lv_aload_n hx hb dX12_kindOn_39 rfl (lv_at hl 0 rfl) ?_
      refine gf_r_27 hx hb hts hiX12 hown hK hn hH lk1 dX12_kindOn_40 ?_
      refine lv_iload_n hx hb dX12_kindOn_43 rfl (lv_at hl 1 rfl) ?_
      obtain ⟨hi_7, hw⟩ := hw
      refine k_ild hx hb hK hH (hn _ (by decide)) Er_15 hi_7 dX12_kindOn_44 ?_
      refine lv_iconst (v := 0) hx hb dX12_kindOn_45 (by decide +kernel) ?_
      refine k_afti (va_runV (As := [.int (gA S4 15 a1.toNatClampNeg), .int (0 : Int32)]) (rest := []) ⟨hx, hb, hml, hown, hts⟩ (c_X12_its l D kA ly n hn A (gA S4 15 a1.toNatClampNeg) (0 : Int32) S4 _) (cwV 2 hts gX12_kindOn_X12_its rfl rfl rfl (by decide +kernel) ⟨(Nat.le_of_ble_eq_true rfl), (Nat.le_of_ble_eq_true rfl)⟩) ⟨k_blind, (k_recv hK hH (hn _ (by decide)) Er_0 rfl), k_pre hK hN hH hw⟩ rfl rfl hl.1 rfl (lv_room (Nat.le_of_ble_eq_true rfl)) dX12_kindOn_46 ⟨Nat.le_refl _, Nat.le_refl _⟩) hH (fun r9 S8 H locs hw hH => ?_)
      refine lv_goto (tgt := 53) hx hb dX12_kindOn_49 (by decide) ?_
      exact k_iret hx hb hr hlocks hK hN hH hw dX12_kindOn_53
  · replace hw := hw.2 hc2
    refine lv_aload_n hx hb dX12_kindOn_9 rfl (lv_at hl 0 rfl) ?_
    refine gf_r_26 hx hb hts hiX12 hown hK hn hH lk0 dX12_kindOn_10 ?_
    refine lv_iload_n hx hb dX12_kindOn_13 rfl (lv_at hl 1 rfl) ?_
    obtain ⟨hi_10, hw⟩ := hw
    refine k_ild hx hb hK hH (hn _ (by decide)) Er_14 hi_10 dX12_kindOn_14 ?_
    refine lv_if_ge (tgt := 22) hx hb dX12_kindOn_15 (by decide) (fun hc11 => ?_) (fun hc11 => ?_)
    · replace hw := hw.1 hc11
      refine lv_bipush (v := 9) hx hb dX12_kindOn_22 (by decide +kernel) ?_
      exact k_iret hx hb hr hlocks hK hN hH hw dX12_kindOn_24
    · replace hw := hw.2 hc11
      refine lv_iconst (v := -1) hx hb dX12_kindOn_18 (by decide +kernel) ?_
      refine lv_goto (tgt := 24) hx hb dX12_kindOn_19 (by decide) ?_
      exact k_iret hx hb hr hlocks hK hN hH hw dX12_kindOn_24
def wp_X12_isUnder (a0 : Int32) (a1 : Int32) (S : St) (Q : Int32 → St → Prop) : Prop := ((a1 = 0 → Q (1 : Int32) S) ∧ (¬ a1 = 0 → ((a1 = a0 → Q (1 : Int32) S) ∧ (¬ a1 = a0 → ((a1 = (1 : Int32) → ((a0 = (2 : Int32) → Q (1 : Int32) S) ∧ (¬ a0 = (2 : Int32) → ((a1 = (3 : Int32) → ((a0 = (4 : Int32) → Q (1 : Int32) S) ∧ (¬ a0 = (4 : Int32) → Q (0 : Int32) S))) ∧ (¬ a1 = (3 : Int32) → Q (0 : Int32) S))))) ∧ (¬ a1 = (1 : Int32) → ((a1 = (3 : Int32) → ((a0 = (4 : Int32) → Q (1 : Int32) S) ∧ (¬ a0 = (4 : Int32) → Q (0 : Int32) S))) ∧ (¬ a1 = (3 : Int32) → Q (0 : Int32) S))))))))
set_option maxHeartbeats 4000000 in
set_option maxRecDepth 100000 in
theorem c_X12_isUnder (l : Launch) (D : va_G) (kA : Nat → ClassId) (ly : Nat → Nat) (n : List Nat) (hn : ∀ c, c < 20 → c ∈ n) (A : Nat → Prop) (a0 : Int32) (a1 : Int32) : Ci l yX12_isUnder wsX12_isUnder 0 0 (Gp D (Er kA ly) ly n A kA) A [.int a0, .int a1] (wp_X12_isUnder a0 a1) := by
  intro S Q
  refine Met.ofW (cc := cX12_isUnder) (maxL := 2) (ret := (some .boolean)) (by decide) rfl ?_
  intro p e s m args below meth c s₁ B hml hv
  obtain ⟨rfl, ⟨hP, hD, hK, hN⟩, hw⟩ := hv
  have hx := B.exec
  have hb := B.bytes
  have hr := B.returns
  have hts := atoms_spec (ws := wsX12_isUnder) B.pre
  have hown : s.vm.findClass RX12 = some m.cls := findClass_of_methodNamed B.named
  have hlocks := B.notSynchronized
  have hH : Hp D (Er kA ly) ly n A s.heap S s.heap [] := ⟨hP, hD, va_S.rf⟩
  have hl := lv_entry ([.int a0, .int a1]) (n := 2) (Nat.le_of_ble_eq_true rfl)
  rw [lg_entry_eq]
  generalize (lg_sl ([.int a0, .int a1]) ++ List.replicate (2 - (lg_sl ([.int a0, .int a1])).length) Slot.unset).toArray = ls at hl ⊢
  have hl : lv_has ls 2 [(0, .int a0), (1, .int a1)] := hl
  rw [wp_X12_isUnder] at hw
  refine lv_iload_n hx hb dX12_isUnder_0 rfl (lv_at hl 1 rfl) ?_
  refine lv_if_eq (tgt := 29) hx hb dX12_isUnder_1 (by decide) (fun hc1 => ?_) (fun hc1 => ?_)
  · replace hw := hw.1 hc1
    refine lv_iconst (v := 1) hx hb dX12_isUnder_29 (by decide +kernel) ?_
    refine lv_goto (tgt := 34) hx hb dX12_isUnder_30 (by decide) ?_
    exact k_zret hx hb hr hlocks hK hN hH rfl hw dX12_isUnder_34
  · replace hw := hw.2 hc1
    refine lv_iload_n hx hb dX12_isUnder_4 rfl (lv_at hl 1 rfl) ?_
    refine lv_iload_n hx hb dX12_isUnder_5 rfl (lv_at hl 0 rfl) ?_
    refine lv_icmp_eq (tgt := 29) hx hb dX12_isUnder_6 (by decide) (fun hc2 => ?_) (fun hc2 => ?_)
    · replace hw := hw.1 hc2
      refine lv_iconst (v := 1) hx hb dX12_isUnder_29 (by decide +kernel) ?_
      refine lv_goto (tgt := 34) hx hb dX12_isUnder_30 (by decide) ?_
      exact k_zret hx hb hr hlocks hK hN hH rfl hw dX12_isUnder_34
    · replace hw := hw.2 hc2
      refine lv_iload_n hx hb dX12_isUnder_9 rfl (lv_at hl 1 rfl) ?_
      refine lv_iconst (v := 1) hx hb dX12_isUnder_10 (by decide +kernel) ?_
      refine lv_icmp_ne (tgt := 19) hx hb dX12_isUnder_11 (by decide) (fun hc3 => ?_) (fun hc3 => ?_)
      · replace hw := hw.2 hc3
        refine lv_iload_n hx hb dX12_isUnder_19 rfl (lv_at hl 1 rfl) ?_
        refine lv_iconst (v := 3) hx hb dX12_isUnder_20 (by decide +kernel) ?_
        refine lv_icmp_ne (tgt := 33) hx hb dX12_isUnder_21 (by decide) (fun hc4 => ?_) (fun hc4 => ?_)
        · replace hw := hw.2 hc4
          refine lv_iconst (v := 0) hx hb dX12_isUnder_33 (by decide +kernel) ?_
          exact k_zret hx hb hr hlocks hK hN hH rfl hw dX12_isUnder_34
        · replace hw := hw.1 hc4
          refine lv_iload_n hx hb dX12_isUnder_24 rfl (lv_at hl 0 rfl) ?_
          refine lv_iconst (v := 4) hx hb dX12_isUnder_25 (by decide +kernel) ?_
          refine lv_icmp_ne (tgt := 33) hx hb dX12_isUnder_26 (by decide) (fun hc5 => ?_) (fun hc5 => ?_)
          · replace hw := hw.2 hc5
            refine lv_iconst (v := 0) hx hb dX12_isUnder_33 (by decide +kernel) ?_
            exact k_zret hx hb hr hlocks hK hN hH rfl hw dX12_isUnder_34
          · replace hw := hw.1 hc5
            refine lv_iconst (v := 1) hx hb dX12_isUnder_29 (by decide +kernel) ?_
            refine lv_goto (tgt := 34) hx hb dX12_isUnder_30 (by decide) ?_
            exact k_zret hx hb hr hlocks hK hN hH rfl hw dX12_isUnder_34
      · replace hw := hw.1 hc3
        refine lv_iload_n hx hb dX12_isUnder_14 rfl (lv_at hl 0 rfl) ?_
        refine lv_iconst (v := 2) hx hb dX12_isUnder_15 (by decide +kernel) ?_
        refine lv_icmp_eq (tgt := 29) hx hb dX12_isUnder_16 (by decide) (fun hc6 => ?_) (fun hc6 => ?_)
        · replace hw := hw.1 hc6
          refine lv_iconst (v := 1) hx hb dX12_isUnder_29 (by decide +kernel) ?_
          refine lv_goto (tgt := 34) hx hb dX12_isUnder_30 (by decide) ?_
          exact k_zret hx hb hr hlocks hK hN hH rfl hw dX12_isUnder_34
        · replace hw := hw.2 hc6
          refine lv_iload_n hx hb dX12_isUnder_19 rfl (lv_at hl 1 rfl) ?_
          refine lv_iconst (v := 3) hx hb dX12_isUnder_20 (by decide +kernel) ?_
          refine lv_icmp_ne (tgt := 33) hx hb dX12_isUnder_21 (by decide) (fun hc7 => ?_) (fun hc7 => ?_)
          · replace hw := hw.2 hc7
            refine lv_iconst (v := 0) hx hb dX12_isUnder_33 (by decide +kernel) ?_
            exact k_zret hx hb hr hlocks hK hN hH rfl hw dX12_isUnder_34
          · replace hw := hw.1 hc7
            refine lv_iload_n hx hb dX12_isUnder_24 rfl (lv_at hl 0 rfl) ?_
            refine lv_iconst (v := 4) hx hb dX12_isUnder_25 (by decide +kernel) ?_
            refine lv_icmp_ne (tgt := 33) hx hb dX12_isUnder_26 (by decide) (fun hc8 => ?_) (fun hc8 => ?_)
            · replace hw := hw.2 hc8
              refine lv_iconst (v := 0) hx hb dX12_isUnder_33 (by decide +kernel) ?_
              exact k_zret hx hb hr hlocks hK hN hH rfl hw dX12_isUnder_34
            · replace hw := hw.1 hc8
              refine lv_iconst (v := 1) hx hb dX12_isUnder_29 (by decide +kernel) ?_
              refine lv_goto (tgt := 34) hx hb dX12_isUnder_30 (by decide) ?_
              exact k_zret hx hb hr hlocks hK hN hH rfl hw dX12_isUnder_34
