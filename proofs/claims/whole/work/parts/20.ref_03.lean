def wl_X12_quarry_22  (K_22 : Int32 → St → Prop) : Nat → Int32 → St → Prop
  | 0, _, _ => False
  | fu_22 + 1, v1_22, S_22 => (((200 : Int32) ≤ v1_22 → K_22 v1_22 S_22) ∧ (¬ (200 : Int32) ≤ v1_22 → (vp_in v1_22 200 ∧ ∀ S7 : St, S7 = sA S_22 5 v1_22.toNatClampNeg (0 : Int32) → (∀ t8 : Int32, t8 = v1_22 + 1 → wl_X12_quarry_22 K_22 fu_22 t8 S7))))
def wl_X12_quarry_44  (K_44 : Int32 → St → Prop) : Nat → Int32 → St → Prop
  | 0, _, _ => False
  | fu_44 + 1, v1_44, S_44 => (((12 : Int32) ≤ v1_44 → K_44 v1_44 S_44) ∧ (¬ (12 : Int32) ≤ v1_44 → (vp_in v1_44 12 ∧ ∀ S13 : St, S13 = sA S_44 6 v1_44.toNatClampNeg (1 : Int32) → (∀ t14 : Int32, t14 = v1_44 + 1 → wl_X12_quarry_44 K_44 fu_44 t14 S13))))
def wl_X12_quarry_67  (K_67 : St → Prop) : Nat → St → Prop
  | 0, _ => False
  | fu_67 + 1, S_67 => (((gI S_67 0 12) = 0 → K_67 S_67) ∧ (¬ (gI S_67 0 12) = 0 → (((gI S_67 0 7) = 0 → K_67 S_67) ∧ (¬ (gI S_67 0 7) = 0 → wp_X12_wantClause S_67 (fun S20 => wl_X12_quarry_67 K_67 fu_67 S20)))))
def wl_X12_quarry_110  (K_110 : Int32 → St → Prop) : Nat → Int32 → St → Prop
  | 0, _, _ => False
  | fu_110 + 1, v1_110, S_110 => (((200 : Int32) ≤ v1_110 → K_110 v1_110 S_110) ∧ (¬ (200 : Int32) ≤ v1_110 → (vp_in v1_110 200 ∧ (vp_in v1_110 200 ∧ ∀ S27 : St, S27 = sA S_110 1 v1_110.toNatClampNeg (gA S_110 5 v1_110.toNatClampNeg) → (∀ t28 : Int32, t28 = v1_110 + 1 → wl_X12_quarry_110 K_110 fu_110 t28 S27)))))
def wl_X12_quarry_137  (K_137 : Int32 → St → Prop) : Nat → Int32 → St → Prop
  | 0, _, _ => False
  | fu_137 + 1, v1_137, S_137 => (((12 : Int32) ≤ v1_137 → K_137 v1_137 S_137) ∧ (¬ (12 : Int32) ≤ v1_137 → (vp_in v1_137 12 ∧ (vp_in v1_137 12 ∧ ∀ S34 : St, S34 = sA S_137 2 v1_137.toNatClampNeg (gA S_137 6 v1_137.toNatClampNeg) → (∀ t35 : Int32, t35 = v1_137 + 1 → wl_X12_quarry_137 K_137 fu_137 t35 S34)))))
def wl_X12_quarry_183  (K_183 : Int32 → St → Prop) : Nat → Int32 → St → Prop
  | 0, _, _ => False
  | fu_183 + 1, v1_183, S_183 => (((gI S_183 0 13) ≤ v1_183 → K_183 v1_183 S_183) ∧ (¬ (gI S_183 0 13) ≤ v1_183 → (vp_in ((3 : Int32) * v1_183) 18 ∧ (vp_in (((3 : Int32) * v1_183) + (1 : Int32)) 18 ∧ (vp_in (((3 : Int32) * v1_183) + (2 : Int32)) 18 ∧ wp_X12_makes v1_183 (gA S_183 7 ((3 : Int32) * v1_183).toNatClampNeg) (gA S_183 7 (((3 : Int32) * v1_183) + (1 : Int32)).toNatClampNeg) (gA S_183 7 (((3 : Int32) * v1_183) + (2 : Int32)).toNatClampNeg) S_183 (fun S46 => (∀ t47 : Int32, t47 = v1_183 + 1 → wl_X12_quarry_183 K_183 fu_183 t47 S46)))))))
def wp_X12_quarry  (S : St) (Q : Int32 → St → Prop) : Prop := (∀ S1 : St, S1 = sI S 0 9 (0 : Int32) → (∀ S2 : St, S2 = sI S1 0 12 (1 : Int32) → (∀ S3 : St, S3 = sI S2 0 13 (0 : Int32) → (∀ S4 : St, S4 = sI S3 0 14 (0 : Int32) → (∃ m_22 : Nat, wl_X12_quarry_22 (fun e1_9 S10 => (∃ m_44 : Nat, wl_X12_quarry_44 (fun e1_15 S16 => wp_X12_advance S16 (fun S17 => (∃ m_67 : Nat, wl_X12_quarry_67 (fun S21 => (∀ S22 : St, S22 = sI S21 0 6 (0 : Int32) → (((gI S22 0 12) = 0 → Q ((-100 : Int32) - (gI S22 0 8)) S22) ∧ (¬ (gI S22 0 12) = 0 → (∃ m_110 : Nat, wl_X12_quarry_110 (fun e1_29 S30 => (∃ m_137 : Nat, wl_X12_quarry_137 (fun e1_36 S37 => (vp_in (0 : Int32) 232 ∧ ∀ S39 : St, S39 = sA S37 3 (0 : Int32).toNatClampNeg (gI S37 0 14) → (vp_in (1 : Int32) 232 ∧ ∀ S41 : St, S41 = sA S39 3 (1 : Int32).toNatClampNeg (gI S39 0 13) → (∃ m_183 : Nat, wl_X12_quarry_183 (fun e1_48 S49 => (∀ S50 : St, S50 = sI S49 0 21 (0 : Int32) → Q (gI S50 0 13) S50)) m_183 (0 : Int32) S41)))) m_137 (0 : Int32) S30)) m_110 (0 : Int32) S22))))) m_67 S17))) m_44 (0 : Int32) S10)) m_22 (0 : Int32) S4)))))
set_option maxHeartbeats 4000000 in
set_option maxRecDepth 100000 in
theorem c_X12_quarry (l : Launch) (D : va_G) (kA : Nat → ClassId) (ly : Nat → Nat) (n : List Nat) (hn : ∀ c, c < 20 → c ∈ n) (A : Nat → Prop)  : Ci l yX12_quarry wsX12_quarry 7 151 (Gp D (Er kA ly) ly n A kA) A [.ref (ly 0)] (wp_X12_quarry) := by
  intro S Q
  refine Met.ofW (cc := cX12_quarry) (maxL := 2) (ret := (some .int)) (by decide) rfl ?_
  intro p e s m args below meth c s₁ B hml hv
  obtain ⟨rfl, ⟨hP, hD, hK, hN⟩, hw⟩ := hv
  have hx := B.exec
  have hb := B.bytes
  have hr := B.returns
  have hts := atoms_spec (ws := wsX12_quarry) B.pre
  have hown : s.vm.findClass RX12 = some m.cls := findClass_of_methodNamed B.named
  have hlocks := B.notSynchronized
  have hH : Hp D (Er kA ly) ly n A s.heap S s.heap [] := ⟨hP, hD, va_S.rf⟩
  have hiX12 : ∀ w ∈ u_ws RX12 TX12 39, w ∈ wsX12_quarry := by decide +kernel
  have lk0 := hts (.fieldLink RX12 84 "SlowPanesModel" "tokenEnds" "I") (by decide +kernel)
  have lk1 := hts (.fieldLink RX12 133 "SlowPanesModel" "good" "Z") (by decide +kernel)
  have lk2 := hts (.fieldLink RX12 143 "SlowPanesModel" "freshMany" "I") (by decide +kernel)
  have lk3 := hts (.fieldLink RX12 181 "SlowPanesModel" "freshToday" "I") (by decide +kernel)
  have lk4 := hts (.fieldLink RX12 26 "SlowPanesModel" "freshViews" "[I") (by decide +kernel)
  have lk5 := hts (.fieldLink RX12 29 "SlowPanesModel" "freshLoves" "[I") (by decide +kernel)
  have lk6 := hts (.fieldLink RX12 101 "SlowPanesModel" "sort" "I") (by decide +kernel)
  have lk7 := hts (.fieldLink RX12 79 "SlowPanesModel" "tapeMany" "I") (by decide +kernel)
  have lk8 := hts (.fieldLink RX12 7 "SlowPanesModel" "views" "[I") (by decide +kernel)
  have lk9 := hts (.fieldLink RX12 13 "SlowPanesModel" "loves" "[I") (by decide +kernel)
  have lk10 := hts (.fieldLink RX12 16 "SlowPanesModel" "row" "[I") (by decide +kernel)
  have lk11 := hts (.fieldLink RX12 32 "SlowPanesModel" "freshPanes" "[I") (by decide +kernel)
  have lk12 := hts (.fieldLink RX12 191 "SlowPanesModel" "rowMany" "I") (by decide +kernel)
  have lk13 := hts (.fieldLink RX12 87 "SlowPanesModel" "begins" "I") (by decide +kernel)
  have hl := lv_entry ([.ref (ly 0)]) (n := 2) (Nat.le_of_ble_eq_true rfl)
  rw [lg_entry_eq]
  generalize (lg_sl ([.ref (ly 0)]) ++ List.replicate (2 - (lg_sl ([.ref (ly 0)])).length) Slot.unset).toArray = ls at hl ⊢
  have hl : lv_has ls 2 [(0, .ref (ly 0))] := hl
  rw [wp_X12_quarry] at hw
  refine lv_aload_n hx hb dX12_quarry_0 rfl (lv_at hl 0 rfl) ?_
  refine lv_iconst (v := 0) hx hb dX12_quarry_1 (by decide +kernel) ?_
  refine pf_r_9 hx hb hts hiX12 hown hK hn hH lk0 dX12_quarry_2 (fun S1 H locs eS1 hH => ?_)
  replace hw := hw S1 eS1
  refine lv_aload_n hx hb dX12_quarry_5 rfl (lv_at hl 0 rfl) ?_
  refine lv_iconst (v := 1) hx hb dX12_quarry_6 (by decide +kernel) ?_
  refine pf_r_12 hx hb hts hiX12 hown hK hn hH lk1 isB_1 dX12_quarry_7 (fun S2 H locs eS2 hH => ?_)
  replace hw := hw S2 eS2
  refine lv_aload_n hx hb dX12_quarry_10 rfl (lv_at hl 0 rfl) ?_
  refine lv_iconst (v := 0) hx hb dX12_quarry_11 (by decide +kernel) ?_
  refine pf_r_13 hx hb hts hiX12 hown hK hn hH lk2 dX12_quarry_12 (fun S3 H locs eS3 hH => ?_)
  replace hw := hw S3 eS3
  refine lv_aload_n hx hb dX12_quarry_15 rfl (lv_at hl 0 rfl) ?_
  refine lv_iconst (v := 0) hx hb dX12_quarry_16 (by decide +kernel) ?_
  refine pf_r_14 hx hb hts hiX12 hown hK hn hH lk3 dX12_quarry_17 (fun S4 H locs eS4 hH => ?_)
  replace hw := hw S4 eS4
  refine lv_iconst (v := 0) hx hb dX12_quarry_20 (by decide +kernel) ?_
  refine lv_istore_n (lv' := [(1, .int (0 : Int32)), (0, .ref (ly 0))]) hx hb dX12_quarry_21 rfl hl (by decide) rfl (fun ls hl => ?_)
  have L_22 : ∀ (K_22 : Int32 → St → Prop) (hk_22 : ∀ (v1_22 : Int32) (S_22 : St) (H : Heap) (locs : List Loc) (ls : Array Slot), K_22 v1_22 S_22 → Hp D (Er kA ly) ly n A s.heap S_22 H locs → lv_has ls 2 [(0, .ref (ly 0)), (1, .int v1_22)] → W p l e (headSpec wsX12_quarry { frames := 7, cells := 0, slots := 0, locals := 151 }).room s m [.ref (ly 0)].toArray below meth c H locs 0 0 (MQ below (va_Qi Q (Gp D (Er kA ly) ly n A kA) A) [.ref (ly 0)].toArray s 0 0 A) (F0 m 42 ls [])) (fu_22 : Nat) (v1_22 : Int32) (S_22 : St) (H : Heap) (locs : List Loc) (ls : Array Slot), wl_X12_quarry_22 K_22 fu_22 v1_22 S_22 → Hp D (Er kA ly) ly n A s.heap S_22 H locs → lv_has ls 2 [(0, .ref (ly 0)), (1, .int v1_22)] → W p l e (headSpec wsX12_quarry { frames := 7, cells := 0, slots := 0, locals := 151 }).room s m [.ref (ly 0)].toArray below meth c H locs 0 0 (MQ below (va_Qi Q (Gp D (Er kA ly) ly n A kA) A) [.ref (ly 0)].toArray s 0 0 A) (F0 m 22 ls []) := by
    intro K_22 hk_22 fu_22
    induction fu_22 with
    | zero => intro v1_22 S_22 H locs ls hw hH hl; rw [wl_X12_quarry_22] at hw; exact hw.elim
    | succ fu_22 ih_22 =>
      intro v1_22 S_22 H locs ls hw hH hl
      rw [wl_X12_quarry_22] at hw
      refine lv_iload_n hx hb dX12_quarry_22 rfl (lv_at hl 1 rfl) ?_
      refine lv_sipush (v := 200) hx hb dX12_quarry_23 (by decide +kernel) ?_
      refine lv_icmp_ge (tgt := 42) hx hb dX12_quarry_26 (by decide) (fun hc5 => ?_) (fun hc5 => ?_)
      · replace hw := hw.1 hc5
        exact hk_22 v1_22 S_22 _ _ ls hw hH (lv_sub hl [0, 1] rfl)
      · replace hw := hw.2 hc5
        refine lv_aload_n hx hb dX12_quarry_29 rfl (lv_at hl 0 rfl) ?_
        refine gf_r_15 hx hb hts hiX12 hown hK hn hH lk4 dX12_quarry_30 ?_
        refine lv_iload_n hx hb dX12_quarry_33 rfl (lv_at hl 1 rfl) ?_
        refine lv_iconst (v := 0) hx hb dX12_quarry_34 (by decide +kernel) ?_
        obtain ⟨hi_6, hw⟩ := hw
        refine k_ist hx hb hK hH (hn _ (by decide)) (fun _ => Er_5) hi_6 dX12_quarry_35 (fun S7 H locs eS7 hH => ?_)
        replace hw := hw S7 eS7
        obtain ⟨t8, et8⟩ : ∃ y : Int32, y = v1_22 + 1 := ⟨_, rfl⟩
        replace hw := hw t8 et8
        refine lv_iinc (v := t8) (lv' := [(1, .int t8), (0, .ref (ly 0))]) hx hb dX12_quarry_36 hl (k := 1) rfl (by rw [et8]; rfl) (by decide) rfl (fun ls hl => ?_)
        refine lv_goto (tgt := 22) hx hb dX12_quarry_39 (by decide) ?_
        exact ih_22 t8 S7 _ _ ls hw hH (lv_sub hl [1, 0] rfl)
  obtain ⟨m_22, hw⟩ := hw
  refine L_22 _ (fun e1_9 S10 H locs ls hw hH hl => ?_) m_22 (0 : Int32) S4 _ _ ls hw hH (lv_sub hl [1, 0] rfl)
  refine lv_iconst (v := 0) hx hb dX12_quarry_42 (by decide +kernel) ?_
  refine lv_istore_n (lv' := [(1, .int (0 : Int32)), (0, .ref (ly 0))]) hx hb dX12_quarry_43 rfl hl (by decide) rfl (fun ls hl => ?_)
  have L_44 : ∀ (K_44 : Int32 → St → Prop) (hk_44 : ∀ (v1_44 : Int32) (S_44 : St) (H : Heap) (locs : List Loc) (ls : Array Slot), K_44 v1_44 S_44 → Hp D (Er kA ly) ly n A s.heap S_44 H locs → lv_has ls 2 [(0, .ref (ly 0)), (1, .int v1_44)] → W p l e (headSpec wsX12_quarry { frames := 7, cells := 0, slots := 0, locals := 151 }).room s m [.ref (ly 0)].toArray below meth c H locs 0 0 (MQ below (va_Qi Q (Gp D (Er kA ly) ly n A kA) A) [.ref (ly 0)].toArray s 0 0 A) (F0 m 63 ls [])) (fu_44 : Nat) (v1_44 : Int32) (S_44 : St) (H : Heap) (locs : List Loc) (ls : Array Slot), wl_X12_quarry_44 K_44 fu_44 v1_44 S_44 → Hp D (Er kA ly) ly n A s.heap S_44 H locs → lv_has ls 2 [(0, .ref (ly 0)), (1, .int v1_44)] → W p l e (headSpec wsX12_quarry { frames := 7, cells := 0, slots := 0, locals := 151 }).room s m [.ref (ly 0)].toArray below meth c H locs 0 0 (MQ below (va_Qi Q (Gp D (Er kA ly) ly n A kA) A) [.ref (ly 0)].toArray s 0 0 A) (F0 m 44 ls []) := by
    intro K_44 hk_44 fu_44
    induction fu_44 with
    | zero => intro v1_44 S_44 H locs ls hw hH hl; rw [wl_X12_quarry_44] at hw; exact hw.elim
    | succ fu_44 ih_44 =>
      intro v1_44 S_44 H locs ls hw hH hl
      rw [wl_X12_quarry_44] at hw
      refine lv_iload_n hx hb dX12_quarry_44 rfl (lv_at hl 1 rfl) ?_
      refine lv_bipush (v := 12) hx hb dX12_quarry_45 (by decide +kernel) ?_
      refine lv_icmp_ge (tgt := 63) hx hb dX12_quarry_47 (by decide) (fun hc11 => ?_) (fun hc11 => ?_)
      · replace hw := hw.1 hc11
        exact hk_44 v1_44 S_44 _ _ ls hw hH (lv_sub hl [0, 1] rfl)
      · replace hw := hw.2 hc11
        refine lv_aload_n hx hb dX12_quarry_50 rfl (lv_at hl 0 rfl) ?_
        refine gf_r_16 hx hb hts hiX12 hown hK hn hH lk5 dX12_quarry_51 ?_
        refine lv_iload_n hx hb dX12_quarry_54 rfl (lv_at hl 1 rfl) ?_
        refine lv_iconst (v := 1) hx hb dX12_quarry_55 (by decide +kernel) ?_
        obtain ⟨hi_12, hw⟩ := hw
        refine k_ist hx hb hK hH (hn _ (by decide)) (fun _ => Er_6) hi_12 dX12_quarry_56 (fun S13 H locs eS13 hH => ?_)
        replace hw := hw S13 eS13
        obtain ⟨t14, et14⟩ : ∃ y : Int32, y = v1_44 + 1 := ⟨_, rfl⟩
        replace hw := hw t14 et14
        refine lv_iinc (v := t14) (lv' := [(1, .int t14), (0, .ref (ly 0))]) hx hb dX12_quarry_57 hl (k := 1) rfl (by rw [et14]; rfl) (by decide) rfl (fun ls hl => ?_)
        refine lv_goto (tgt := 44) hx hb dX12_quarry_60 (by decide) ?_
        exact ih_44 t14 S13 _ _ ls hw hH (lv_sub hl [1, 0] rfl)
  obtain ⟨m_44, hw⟩ := hw
  refine L_44 _ (fun e1_15 S16 H locs ls hw hH hl => ?_) m_44 (0 : Int32) S10 _ _ ls hw hH (lv_sub hl [1, 0] rfl)
  refine lv_aload_n hx hb dX12_quarry_63 rfl (lv_at hl 0 rfl) ?_
  refine k_aftv (va_runV (As := []) (rest := []) ⟨hx, hb, hml, hown, hts⟩ (c_X12_advance l D kA ly n hn A S16 _) (cwV 0 hts gX12_quarry_X12_advance rfl rfl rfl (by decide +kernel) ⟨(Nat.le_of_ble_eq_true rfl), (Nat.le_of_ble_eq_true rfl)⟩) ⟨k_blind, (k_recv hK hH (hn _ (by decide)) Er_0 rfl), k_pre hK hN hH hw⟩ rfl rfl hl.1 rfl (lv_room (Nat.le_of_ble_eq_true rfl)) dX12_quarry_64 ⟨Nat.le_refl _, Nat.le_refl _⟩) hH (fun S17 H locs hw hH => ?_)
  have L_67 : ∀ (K_67 : St → Prop) (hk_67 : ∀  (S_67 : St) (H : Heap) (locs : List Loc) (ls : Array Slot), K_67 S_67 → Hp D (Er kA ly) ly n A s.heap S_67 H locs → lv_has ls 2 [(0, .ref (ly 0)), (1, .int e1_15)] → W p l e (headSpec wsX12_quarry { frames := 7, cells := 0, slots := 0, locals := 151 }).room s m [.ref (ly 0)].toArray below meth c H locs 0 0 (MQ below (va_Qi Q (Gp D (Er kA ly) ly n A kA) A) [.ref (ly 0)].toArray s 0 0 A) (F0 m 88 ls [])) (fu_67 : Nat)  (S_67 : St) (H : Heap) (locs : List Loc) (ls : Array Slot), wl_X12_quarry_67 K_67 fu_67 S_67 → Hp D (Er kA ly) ly n A s.heap S_67 H locs → lv_has ls 2 [(0, .ref (ly 0)), (1, .int e1_15)] → W p l e (headSpec wsX12_quarry { frames := 7, cells := 0, slots := 0, locals := 151 }).room s m [.ref (ly 0)].toArray below meth c H locs 0 0 (MQ below (va_Qi Q (Gp D (Er kA ly) ly n A kA) A) [.ref (ly 0)].toArray s 0 0 A) (F0 m 67 ls []) := by
    intro K_67 hk_67 fu_67
    induction fu_67 with
    | zero => intro S_67 H locs ls hw hH hl; rw [wl_X12_quarry_67] at hw; exact hw.elim
    | succ fu_67 ih_67 =>
      intro S_67 H locs ls hw hH hl
      rw [wl_X12_quarry_67] at hw
      refine lv_aload_n hx hb dX12_quarry_67 rfl (lv_at hl 0 rfl) ?_
      refine gf_r_12 hx hb hts hiX12 hown hK hn hH lk1 dX12_quarry_68 ?_
      refine lv_if_eq (tgt := 88) hx hb dX12_quarry_71 (by decide) (fun hc18 => ?_) (fun hc18 => ?_)
      · replace hw := hw.1 hc18
        exact hk_67  S_67 _ _ ls hw hH (lv_sub hl [0, 1] rfl)
      · replace hw := hw.2 hc18
        refine lv_aload_n hx hb dX12_quarry_74 rfl (lv_at hl 0 rfl) ?_
        refine gf_r_7 hx hb hts hiX12 hown hK hn hH lk6 dX12_quarry_75 ?_
        refine lv_if_eq (tgt := 88) hx hb dX12_quarry_78 (by decide) (fun hc19 => ?_) (fun hc19 => ?_)
        · replace hw := hw.1 hc19
          exact hk_67  S_67 _ _ ls hw hH (lv_sub hl [0, 1] rfl)
        · replace hw := hw.2 hc19
          refine lv_aload_n hx hb dX12_quarry_81 rfl (lv_at hl 0 rfl) ?_
          refine k_aftv (va_runV (As := []) (rest := []) ⟨hx, hb, hml, hown, hts⟩ (c_X12_wantClause l D kA ly n hn A S_67 _) (cwV 0 hts gX12_quarry_X12_wantClause rfl rfl rfl (by decide +kernel) ⟨(Nat.le_of_ble_eq_true rfl), (Nat.le_of_ble_eq_true rfl)⟩) ⟨k_blind, (k_recv hK hH (hn _ (by decide)) Er_0 rfl), k_pre hK hN hH hw⟩ rfl rfl hl.1 rfl (lv_room (Nat.le_of_ble_eq_true rfl)) dX12_quarry_82 ⟨Nat.le_refl _, Nat.le_refl _⟩) hH (fun S20 H locs hw hH => ?_)
          refine lv_goto (tgt := 67) hx hb dX12_quarry_85 (by decide) ?_
          exact ih_67  S20 _ _ ls hw hH (lv_sub hl [0, 1] rfl)
  obtain ⟨m_67, hw⟩ := hw
  refine L_67 _ (fun S21 H locs ls hw hH hl => ?_) m_67 S17 _ _ ls hw hH (lv_sub hl [0, 1] rfl)
  refine lv_aload_n hx hb dX12_quarry_88 rfl (lv_at hl 0 rfl) ?_
  refine lv_iconst (v := 0) hx hb dX12_quarry_89 (by decide +kernel) ?_
  refine pf_r_6 hx hb hts hiX12 hown hK hn hH lk7 dX12_quarry_90 (fun S22 H locs eS22 hH => ?_)
  replace hw := hw S22 eS22
  refine lv_aload_n hx hb dX12_quarry_93 rfl (lv_at hl 0 rfl) ?_
  refine gf_r_12 hx hb hts hiX12 hown hK hn hH lk1 dX12_quarry_94 ?_
  refine lv_if_ne (tgt := 108) hx hb dX12_quarry_97 (by decide) (fun hc23 => ?_) (fun hc23 => ?_)
  · replace hw := hw.2 hc23
    refine lv_iconst (v := 0) hx hb dX12_quarry_108 (by decide +kernel) ?_
    refine lv_istore_n (lv' := [(1, .int (0 : Int32)), (0, .ref (ly 0))]) hx hb dX12_quarry_109 rfl hl (by decide) rfl (fun ls hl => ?_)
    have L_110 : ∀ (K_110 : Int32 → St → Prop) (hk_110 : ∀ (v1_110 : Int32) (S_110 : St) (H : Heap) (locs : List Loc) (ls : Array Slot), K_110 v1_110 S_110 → Hp D (Er kA ly) ly n A s.heap S_110 H locs → lv_has ls 2 [(0, .ref (ly 0)), (1, .int v1_110)] → W p l e (headSpec wsX12_quarry { frames := 7, cells := 0, slots := 0, locals := 151 }).room s m [.ref (ly 0)].toArray below meth c H locs 0 0 (MQ below (va_Qi Q (Gp D (Er kA ly) ly n A kA) A) [.ref (ly 0)].toArray s 0 0 A) (F0 m 135 ls [])) (fu_110 : Nat) (v1_110 : Int32) (S_110 : St) (H : Heap) (locs : List Loc) (ls : Array Slot), wl_X12_quarry_110 K_110 fu_110 v1_110 S_110 → Hp D (Er kA ly) ly n A s.heap S_110 H locs → lv_has ls 2 [(0, .ref (ly 0)), (1, .int v1_110)] → W p l e (headSpec wsX12_quarry { frames := 7, cells := 0, slots := 0, locals := 151 }).room s m [.ref (ly 0)].toArray below meth c H locs 0 0 (MQ below (va_Qi Q (Gp D (Er kA ly) ly n A kA) A) [.ref (ly 0)].toArray s 0 0 A) (F0 m 110 ls []) := by
      intro K_110 hk_110 fu_110
      induction fu_110 with
      | zero => intro v1_110 S_110 H locs ls hw hH hl; rw [wl_X12_quarry_110] at hw; exact hw.elim
      | succ fu_110 ih_110 =>
        intro v1_110 S_110 H locs ls hw hH hl
        rw [wl_X12_quarry_110] at hw
        refine lv_iload_n hx hb dX12_quarry_110 rfl (lv_at hl 1 rfl) ?_
        refine lv_sipush (v := 200) hx hb dX12_quarry_111 (by decide +kernel) ?_
        refine lv_icmp_ge (tgt := 135) hx hb dX12_quarry_114 (by decide) (fun hc24 => ?_) (fun hc24 => ?_)
        · replace hw := hw.1 hc24
          exact hk_110 v1_110 S_110 _ _ ls hw hH (lv_sub hl [0, 1] rfl)
        · replace hw := hw.2 hc24
          refine lv_aload_n hx hb dX12_quarry_117 rfl (lv_at hl 0 rfl) ?_
          refine gf_r_0 hx hb hts hiX12 hown hK hn hH lk8 dX12_quarry_118 ?_
          refine lv_iload_n hx hb dX12_quarry_121 rfl (lv_at hl 1 rfl) ?_
          refine lv_aload_n hx hb dX12_quarry_122 rfl (lv_at hl 0 rfl) ?_
          refine gf_r_15 hx hb hts hiX12 hown hK hn hH lk4 dX12_quarry_123 ?_
          refine lv_iload_n hx hb dX12_quarry_126 rfl (lv_at hl 1 rfl) ?_
          obtain ⟨hi_25, hw⟩ := hw
          refine k_ild hx hb hK hH (hn _ (by decide)) Er_5 hi_25 dX12_quarry_127 ?_
          obtain ⟨hi_26, hw⟩ := hw
          refine k_ist hx hb hK hH (hn _ (by decide)) (fun _ => Er_1) hi_26 dX12_quarry_128 (fun S27 H locs eS27 hH => ?_)
          replace hw := hw S27 eS27
          obtain ⟨t28, et28⟩ : ∃ y : Int32, y = v1_110 + 1 := ⟨_, rfl⟩
          replace hw := hw t28 et28
          refine lv_iinc (v := t28) (lv' := [(1, .int t28), (0, .ref (ly 0))]) hx hb dX12_quarry_129 hl (k := 1) rfl (by rw [et28]; rfl) (by decide) rfl (fun ls hl => ?_)
          refine lv_goto (tgt := 110) hx hb dX12_quarry_132 (by decide) ?_
          exact ih_110 t28 S27 _ _ ls hw hH (lv_sub hl [1, 0] rfl)
    obtain ⟨m_110, hw⟩ := hw
    refine L_110 _ (fun e1_29 S30 H locs ls hw hH hl => ?_) m_110 (0 : Int32) S22 _ _ ls hw hH (lv_sub hl [1, 0] rfl)
    refine lv_iconst (v := 0) hx hb dX12_quarry_135 (by decide +kernel) ?_
    refine lv_istore_n (lv' := [(1, .int (0 : Int32)), (0, .ref (ly 0))]) hx hb dX12_quarry_136 rfl hl (by decide) rfl (fun ls hl => ?_)
    have L_137 : ∀ (K_137 : Int32 → St → Prop) (hk_137 : ∀ (v1_137 : Int32) (S_137 : St) (H : Heap) (locs : List Loc) (ls : Array Slot), K_137 v1_137 S_137 → Hp D (Er kA ly) ly n A s.heap S_137 H locs → lv_has ls 2 [(0, .ref (ly 0)), (1, .int v1_137)] → W p l e (headSpec wsX12_quarry { frames := 7, cells := 0, slots := 0, locals := 151 }).room s m [.ref (ly 0)].toArray below meth c H locs 0 0 (MQ below (va_Qi Q (Gp D (Er kA ly) ly n A kA) A) [.ref (ly 0)].toArray s 0 0 A) (F0 m 161 ls [])) (fu_137 : Nat) (v1_137 : Int32) (S_137 : St) (H : Heap) (locs : List Loc) (ls : Array Slot), wl_X12_quarry_137 K_137 fu_137 v1_137 S_137 → Hp D (Er kA ly) ly n A s.heap S_137 H locs → lv_has ls 2 [(0, .ref (ly 0)), (1, .int v1_137)] → W p l e (headSpec wsX12_quarry { frames := 7, cells := 0, slots := 0, locals := 151 }).room s m [.ref (ly 0)].toArray below meth c H locs 0 0 (MQ below (va_Qi Q (Gp D (Er kA ly) ly n A kA) A) [.ref (ly 0)].toArray s 0 0 A) (F0 m 137 ls []) := by
      intro K_137 hk_137 fu_137
      induction fu_137 with
      | zero => intro v1_137 S_137 H locs ls hw hH hl; rw [wl_X12_quarry_137] at hw; exact hw.elim
      | succ fu_137 ih_137 =>
        intro v1_137 S_137 H locs ls hw hH hl
        rw [wl_X12_quarry_137] at hw
        refine lv_iload_n hx hb dX12_quarry_137 rfl (lv_at hl 1 rfl) ?_
        refine lv_bipush (v := 12) hx hb dX12_quarry_138 (by decide +kernel) ?_
        refine lv_icmp_ge (tgt := 161) hx hb dX12_quarry_140 (by decide) (fun hc31 => ?_) (fun hc31 => ?_)
        · replace hw := hw.1 hc31
          exact hk_137 v1_137 S_137 _ _ ls hw hH (lv_sub hl [0, 1] rfl)
        · replace hw := hw.2 hc31
          refine lv_aload_n hx hb dX12_quarry_143 rfl (lv_at hl 0 rfl) ?_
          refine gf_r_1 hx hb hts hiX12 hown hK hn hH lk9 dX12_quarry_144 ?_
          refine lv_iload_n hx hb dX12_quarry_147 rfl (lv_at hl 1 rfl) ?_
          refine lv_aload_n hx hb dX12_quarry_148 rfl (lv_at hl 0 rfl) ?_
          refine gf_r_16 hx hb hts hiX12 hown hK hn hH lk5 dX12_quarry_149 ?_
          refine lv_iload_n hx hb dX12_quarry_152 rfl (lv_at hl 1 rfl) ?_
          obtain ⟨hi_32, hw⟩ := hw
          refine k_ild hx hb hK hH (hn _ (by decide)) Er_6 hi_32 dX12_quarry_153 ?_
          obtain ⟨hi_33, hw⟩ := hw
          refine k_ist hx hb hK hH (hn _ (by decide)) (fun _ => Er_2) hi_33 dX12_quarry_154 (fun S34 H locs eS34 hH => ?_)
          replace hw := hw S34 eS34
          obtain ⟨t35, et35⟩ : ∃ y : Int32, y = v1_137 + 1 := ⟨_, rfl⟩
          replace hw := hw t35 et35
          refine lv_iinc (v := t35) (lv' := [(1, .int t35), (0, .ref (ly 0))]) hx hb dX12_quarry_155 hl (k := 1) rfl (by rw [et35]; rfl) (by decide) rfl (fun ls hl => ?_)
          refine lv_goto (tgt := 137) hx hb dX12_quarry_158 (by decide) ?_
          exact ih_137 t35 S34 _ _ ls hw hH (lv_sub hl [1, 0] rfl)
    obtain ⟨m_137, hw⟩ := hw
    refine L_137 _ (fun e1_36 S37 H locs ls hw hH hl => ?_) m_137 (0 : Int32) S30 _ _ ls hw hH (lv_sub hl [1, 0] rfl)
    refine lv_aload_n hx hb dX12_quarry_161 rfl (lv_at hl 0 rfl) ?_
    refine gf_r_2 hx hb hts hiX12 hown hK hn hH lk10 dX12_quarry_162 ?_
    refine lv_iconst (v := 0) hx hb dX12_quarry_165 (by decide +kernel) ?_
    refine lv_aload_n hx hb dX12_quarry_166 rfl (lv_at hl 0 rfl) ?_
    refine gf_r_14 hx hb hts hiX12 hown hK hn hH lk3 dX12_quarry_167 ?_
    obtain ⟨hi_38, hw⟩ := hw
    refine k_ist hx hb hK hH (hn _ (by decide)) (fun _ => Er_3) hi_38 dX12_quarry_170 (fun S39 H locs eS39 hH => ?_)
    replace hw := hw S39 eS39
    refine lv_aload_n hx hb dX12_quarry_171 rfl (lv_at hl 0 rfl) ?_
    refine gf_r_2 hx hb hts hiX12 hown hK hn hH lk10 dX12_quarry_172 ?_
    refine lv_iconst (v := 1) hx hb dX12_quarry_175 (by decide +kernel) ?_
    refine lv_aload_n hx hb dX12_quarry_176 rfl (lv_at hl 0 rfl) ?_
    refine gf_r_13 hx hb hts hiX12 hown hK hn hH lk2 dX12_quarry_177 ?_
    obtain ⟨hi_40, hw⟩ := hw
    refine k_ist hx hb hK hH (hn _ (by decide)) (fun _ => Er_3) hi_40 dX12_quarry_180 (fun S41 H locs eS41 hH => ?_)
    replace hw := hw S41 eS41
    refine lv_iconst (v := 0) hx hb dX12_quarry_181 (by decide +kernel) ?_
    refine lv_istore_n (lv' := [(1, .int (0 : Int32)), (0, .ref (ly 0))]) hx hb dX12_quarry_182 rfl hl (by decide) rfl (fun ls hl => ?_)
    have L_183 : ∀ (K_183 : Int32 → St → Prop) (hk_183 : ∀ (v1_183 : Int32) (S_183 : St) (H : Heap) (locs : List Loc) (ls : Array Slot), K_183 v1_183 S_183 → Hp D (Er kA ly) ly n A s.heap S_183 H locs → lv_has ls 2 [(0, .ref (ly 0)), (1, .int v1_183)] → W p l e (headSpec wsX12_quarry { frames := 7, cells := 0, slots := 0, locals := 151 }).room s m [.ref (ly 0)].toArray below meth c H locs 0 0 (MQ below (va_Qi Q (Gp D (Er kA ly) ly n A kA) A) [.ref (ly 0)].toArray s 0 0 A) (F0 m 230 ls [])) (fu_183 : Nat) (v1_183 : Int32) (S_183 : St) (H : Heap) (locs : List Loc) (ls : Array Slot), wl_X12_quarry_183 K_183 fu_183 v1_183 S_183 → Hp D (Er kA ly) ly n A s.heap S_183 H locs → lv_has ls 2 [(0, .ref (ly 0)), (1, .int v1_183)] → W p l e (headSpec wsX12_quarry { frames := 7, cells := 0, slots := 0, locals := 151 }).room s m [.ref (ly 0)].toArray below meth c H locs 0 0 (MQ below (va_Qi Q (Gp D (Er kA ly) ly n A kA) A) [.ref (ly 0)].toArray s 0 0 A) (F0 m 183 ls []) := by
      intro K_183 hk_183 fu_183
      induction fu_183 with
      | zero => intro v1_183 S_183 H locs ls hw hH hl; rw [wl_X12_quarry_183] at hw; exact hw.elim
      | succ fu_183 ih_183 =>
        intro v1_183 S_183 H locs ls hw hH hl
        rw [wl_X12_quarry_183] at hw
        refine lv_iload_n hx hb dX12_quarry_183 rfl (lv_at hl 1 rfl) ?_
        refine lv_aload_n hx hb dX12_quarry_184 rfl (lv_at hl 0 rfl) ?_
        refine gf_r_13 hx hb hts hiX12 hown hK hn hH lk2 dX12_quarry_185 ?_
        refine lv_icmp_ge (tgt := 230) hx hb dX12_quarry_188 (by decide) (fun hc42 => ?_) (fun hc42 => ?_)
        · replace hw := hw.1 hc42
          exact hk_183 v1_183 S_183 _ _ ls hw hH (lv_sub hl [0, 1] rfl)
        · replace hw := hw.2 hc42
          refine lv_aload_n hx hb dX12_quarry_191 rfl (lv_at hl 0 rfl) ?_
          refine lv_iload_n hx hb dX12_quarry_192 rfl (lv_at hl 1 rfl) ?_
          refine lv_aload_n hx hb dX12_quarry_193 rfl (lv_at hl 0 rfl) ?_
          refine gf_r_17 hx hb hts hiX12 hown hK hn hH lk11 dX12_quarry_194 ?_
          refine lv_iconst (v := 3) hx hb dX12_quarry_197 (by decide +kernel) ?_
          refine lv_iload_n hx hb dX12_quarry_198 rfl (lv_at hl 1 rfl) ?_
          refine lv_imul hx hb dX12_quarry_199 ?_
          obtain ⟨hi_43, hw⟩ := hw
          refine k_ild hx hb hK hH (hn _ (by decide)) Er_7 hi_43 dX12_quarry_200 ?_
          refine lv_aload_n hx hb dX12_quarry_201 rfl (lv_at hl 0 rfl) ?_
          refine gf_r_17 hx hb hts hiX12 hown hK hn hH lk11 dX12_quarry_202 ?_
          refine lv_iconst (v := 3) hx hb dX12_quarry_205 (by decide +kernel) ?_
          refine lv_iload_n hx hb dX12_quarry_206 rfl (lv_at hl 1 rfl) ?_
          refine lv_imul hx hb dX12_quarry_207 ?_
          refine lv_iconst (v := 1) hx hb dX12_quarry_208 (by decide +kernel) ?_
          refine lv_iadd hx hb dX12_quarry_209 ?_
          obtain ⟨hi_44, hw⟩ := hw
          refine k_ild hx hb hK hH (hn _ (by decide)) Er_7 hi_44 dX12_quarry_210 ?_
          refine lv_aload_n hx hb dX12_quarry_211 rfl (lv_at hl 0 rfl) ?_
          refine gf_r_17 hx hb hts hiX12 hown hK hn hH lk11 dX12_quarry_212 ?_
          refine lv_iconst (v := 3) hx hb dX12_quarry_215 (by decide +kernel) ?_
          refine lv_iload_n hx hb dX12_quarry_216 rfl (lv_at hl 1 rfl) ?_
          refine lv_imul hx hb dX12_quarry_217 ?_
          refine lv_iconst (v := 2) hx hb dX12_quarry_218 (by decide +kernel) ?_
          refine lv_iadd hx hb dX12_quarry_219 ?_
          obtain ⟨hi_45, hw⟩ := hw
          refine k_ild hx hb hK hH (hn _ (by decide)) Er_7 hi_45 dX12_quarry_220 ?_
          refine k_aftv (va_runV (As := [.int v1_183, .int (gA S_183 7 ((3 : Int32) * v1_183).toNatClampNeg), .int (gA S_183 7 (((3 : Int32) * v1_183) + (1 : Int32)).toNatClampNeg), .int (gA S_183 7 (((3 : Int32) * v1_183) + (2 : Int32)).toNatClampNeg)]) (rest := []) ⟨hx, hb, hml, hown, hts⟩ (c_X12_makes l D kA ly n hn A v1_183 (gA S_183 7 ((3 : Int32) * v1_183).toNatClampNeg) (gA S_183 7 (((3 : Int32) * v1_183) + (1 : Int32)).toNatClampNeg) (gA S_183 7 (((3 : Int32) * v1_183) + (2 : Int32)).toNatClampNeg) S_183 _) (cwV 4 hts gX12_quarry_X12_makes rfl rfl rfl (by decide +kernel) ⟨(Nat.le_of_ble_eq_true rfl), (Nat.le_of_ble_eq_true rfl)⟩) ⟨k_blind, (k_recv hK hH (hn _ (by decide)) Er_0 rfl), k_pre hK hN hH hw⟩ rfl rfl hl.1 rfl (lv_room (Nat.le_of_ble_eq_true rfl)) dX12_quarry_221 ⟨Nat.le_refl _, Nat.le_refl _⟩) hH (fun S46 H locs hw hH => ?_)
          obtain ⟨t47, et47⟩ : ∃ y : Int32, y = v1_183 + 1 := ⟨_, rfl⟩
          replace hw := hw t47 et47
          refine lv_iinc (v := t47) (lv' := [(1, .int t47), (0, .ref (ly 0))]) hx hb dX12_quarry_224 hl (k := 1) rfl (by rw [et47]; rfl) (by decide) rfl (fun ls hl => ?_)
          refine lv_goto (tgt := 183) hx hb dX12_quarry_227 (by decide) ?_
          exact ih_183 t47 S46 _ _ ls hw hH (lv_sub hl [1, 0] rfl)
    obtain ⟨m_183, hw⟩ := hw
    refine L_183 _ (fun e1_48 S49 H locs ls hw hH hl => ?_) m_183 (0 : Int32) S41 _ _ ls hw hH (lv_sub hl [1, 0] rfl)
    refine lv_aload_n hx hb dX12_quarry_230 rfl (lv_at hl 0 rfl) ?_
    refine lv_iconst (v := 0) hx hb dX12_quarry_231 (by decide +kernel) ?_
    refine pf_r_21 hx hb hts hiX12 hown hK hn hH lk12 dX12_quarry_232 (fun S50 H locs eS50 hH => ?_)
    replace hw := hw S50 eS50
    refine lv_aload_n hx hb dX12_quarry_235 rfl (lv_at hl 0 rfl) ?_
    refine gf_r_13 hx hb hts hiX12 hown hK hn hH lk2 dX12_quarry_236 ?_
    exact k_iret hx hb hr hlocks hK hN hH hw dX12_quarry_239
  · replace hw := hw.1 hc23
    refine lv_bipush (v := -100) hx hb dX12_quarry_100 (by decide +kernel) ?_
    refine lv_aload_n hx hb dX12_quarry_102 rfl (lv_at hl 0 rfl) ?_
    refine gf_r_8 hx hb hts hiX12 hown hK hn hH lk13 dX12_quarry_103 ?_
    refine lv_isub hx hb dX12_quarry_106 ?_
    exact k_iret hx hb hr hlocks hK hN hH hw dX12_quarry_107
def wp_X12_view (a1 : Int32) (a2 : Int32) (a3 : Int32) (S : St) (Q : Int32 → St → Prop) : Prop := wp_X12_isPlace a1 S (fun r2 S1 => ((r2 = 0 → Q (-1 : Int32) S1) ∧ (¬ r2 = 0 → wp_X12_isDay a2 S1 (fun r5 S4 => ((r5 = 0 → Q (-1 : Int32) S4) ∧ (¬ r5 = 0 → wp_X12_in a3 (0 : Int32) (99 : Int32) S4 (fun r8 S7 => ((r8 = 0 → Q (-1 : Int32) S7) ∧ (¬ r8 = 0 → (vp_in (((50 : Int32) * a1) + a2) 200 ∧ (∀ t11 : Int32, t11 = (gA S7 1 (((50 : Int32) * a1) + a2).toNatClampNeg) → (vp_in (((50 : Int32) * a1) + a2) 200 ∧ ∀ S13 : St, S13 = sA S7 1 (((50 : Int32) * a1) + a2).toNatClampNeg a3 → Q t11 S13))))))))))))
set_option maxHeartbeats 4000000 in
set_option maxRecDepth 100000 in
theorem c_X12_view (l : Launch) (D : va_G) (kA : Nat → ClassId) (ly : Nat → Nat) (n : List Nat) (hn : ∀ c, c < 20 → c ∈ n) (A : Nat → Prop) (a1 : Int32) (a2 : Int32) (a3 : Int32) : Ci l yX12_view wsX12_view 2 42 (Gp D (Er kA ly) ly n A kA) A [.ref (ly 0), .int a1, .int a2, .int a3] (wp_X12_view a1 a2 a3) := by
  intro S Q
  refine Met.ofW (cc := cX12_view) (maxL := 5) (ret := (some .int)) (by decide) rfl ?_
  intro p e s m args below meth c s₁ B hml hv
  obtain ⟨rfl, ⟨hP, hD, hK, hN⟩, hw⟩ := hv
  have hx := B.exec
  have hb := B.bytes
  have hr := B.returns
  have hts := atoms_spec (ws := wsX12_view) B.pre
  have hown : s.vm.findClass RX12 = some m.cls := findClass_of_methodNamed B.named
  have hlocks := B.notSynchronized
  have hH : Hp D (Er kA ly) ly n A s.heap S s.heap [] := ⟨hP, hD, va_S.rf⟩
  have hiX12 : ∀ w ∈ u_ws RX12 TX12 39, w ∈ wsX12_view := by decide +kernel
  have lk0 := hts (.fieldLink RX12 7 "SlowPanesModel" "views" "[I") (by decide +kernel)
  have hl := lv_entry ([.ref (ly 0), .int a1, .int a2, .int a3]) (n := 5) (Nat.le_of_ble_eq_true rfl)
  rw [lg_entry_eq]
  generalize (lg_sl ([.ref (ly 0), .int a1, .int a2, .int a3]) ++ List.replicate (5 - (lg_sl ([.ref (ly 0), .int a1, .int a2, .int a3])).length) Slot.unset).toArray = ls at hl ⊢
  have hl : lv_has ls 5 [(0, .ref (ly 0)), (1, .int a1), (2, .int a2), (3, .int a3)] := hl
  rw [wp_X12_view] at hw
  refine lv_iload_n hx hb dX12_view_0 rfl (lv_at hl 1 rfl) ?_
  refine k_afti (va_runS (As := [.int a1]) (rest := []) ⟨hx, hb, hml, hown, hts⟩ (c_X12_isPlace l D kA ly n hn A a1 S _) (va_cwS 1 hts gX12_view_X12_isPlace rfl rfl rfl (by decide +kernel) ⟨(Nat.le_of_ble_eq_true rfl), (Nat.le_of_ble_eq_true rfl)⟩) ⟨k_blind, k_pre hK hN hH hw⟩ rfl rfl hl.1 rfl (lv_room (Nat.le_of_ble_eq_true rfl)) dX12_view_1 ⟨Nat.le_refl _, Nat.le_refl _⟩) hH (fun r2 S1 H locs hw hH => ?_)
  refine lv_if_eq (tgt := 24) hx hb dX12_view_4 (by decide) (fun hc3 => ?_) (fun hc3 => ?_)
  · replace hw := hw.1 hc3
    refine lv_iconst (v := -1) hx hb dX12_view_24 (by decide +kernel) ?_
    exact k_iret hx hb hr hlocks hK hN hH hw dX12_view_25
  · replace hw := hw.2 hc3
    refine lv_iload_n hx hb dX12_view_7 rfl (lv_at hl 2 rfl) ?_
    refine k_afti (va_runS (As := [.int a2]) (rest := []) ⟨hx, hb, hml, hown, hts⟩ (c_X12_isDay l D kA ly n hn A a2 S1 _) (va_cwS 1 hts gX12_view_X12_isDay rfl rfl rfl (by decide +kernel) ⟨(Nat.le_of_ble_eq_true rfl), (Nat.le_of_ble_eq_true rfl)⟩) ⟨k_blind, k_pre hK hN hH hw⟩ rfl rfl hl.1 rfl (lv_room (Nat.le_of_ble_eq_true rfl)) dX12_view_8 ⟨Nat.le_refl _, Nat.le_refl _⟩) hH (fun r5 S4 H locs hw hH => ?_)
    refine lv_if_eq (tgt := 24) hx hb dX12_view_11 (by decide) (fun hc6 => ?_) (fun hc6 => ?_)
    · replace hw := hw.1 hc6
      refine lv_iconst (v := -1) hx hb dX12_view_24 (by decide +kernel) ?_
      exact k_iret hx hb hr hlocks hK hN hH hw dX12_view_25
    · replace hw := hw.2 hc6
      refine lv_iload_n hx hb dX12_view_14 rfl (lv_at hl 3 rfl) ?_
      refine lv_iconst (v := 0) hx hb dX12_view_15 (by decide +kernel) ?_
      refine lv_bipush (v := 99) hx hb dX12_view_16 (by decide +kernel) ?_
      refine k_afti (va_runS (As := [.int a3, .int (0 : Int32), .int (99 : Int32)]) (rest := []) ⟨hx, hb, hml, hown, hts⟩ (c_X12_in l D kA ly n hn A a3 (0 : Int32) (99 : Int32) S4 _) (va_cwS 3 hts gX12_view_X12_in rfl rfl rfl (by decide +kernel) ⟨(Nat.le_of_ble_eq_true rfl), (Nat.le_of_ble_eq_true rfl)⟩) ⟨k_blind, k_pre hK hN hH hw⟩ rfl rfl hl.1 rfl (lv_room (Nat.le_of_ble_eq_true rfl)) dX12_view_18 ⟨Nat.le_refl _, Nat.le_refl _⟩) hH (fun r8 S7 H locs hw hH => ?_)
      refine lv_if_ne (tgt := 26) hx hb dX12_view_21 (by decide) (fun hc9 => ?_) (fun hc9 => ?_)
      · replace hw := hw.2 hc9
        refine lv_aload_n hx hb dX12_view_26 rfl (lv_at hl 0 rfl) ?_
        refine gf_r_0 hx hb hts hiX12 hown hK hn hH lk0 dX12_view_27 ?_
        refine lv_bipush (v := 50) hx hb dX12_view_30 (by decide +kernel) ?_
        refine lv_iload_n hx hb dX12_view_32 rfl (lv_at hl 1 rfl) ?_
        refine lv_imul hx hb dX12_view_33 ?_
        refine lv_iload_n hx hb dX12_view_34 rfl (lv_at hl 2 rfl) ?_
        refine lv_iadd hx hb dX12_view_35 ?_
        obtain ⟨hi_10, hw⟩ := hw
        refine k_ild hx hb hK hH (hn _ (by decide)) Er_1 hi_10 dX12_view_36 ?_
        refine lv_topi (fun t11 et11 => ?_)
        replace hw := hw t11 et11
        refine lv_istore (lv' := [(4, .int t11), (0, .ref (ly 0)), (1, .int a1), (2, .int a2), (3, .int a3)]) hx hb dX12_view_37 hl (by decide) rfl (fun ls hl => ?_)
        refine lv_aload_n hx hb dX12_view_39 rfl (lv_at hl 1 rfl) ?_
        refine gf_r_0 hx hb hts hiX12 hown hK hn hH lk0 dX12_view_40 ?_
        refine lv_bipush (v := 50) hx hb dX12_view_43 (by decide +kernel) ?_
        refine lv_iload_n hx hb dX12_view_45 rfl (lv_at hl 2 rfl) ?_
        refine lv_imul hx hb dX12_view_46 ?_
        refine lv_iload_n hx hb dX12_view_47 rfl (lv_at hl 3 rfl) ?_
        refine lv_iadd hx hb dX12_view_48 ?_
        refine lv_iload_n hx hb dX12_view_49 rfl (lv_at hl 4 rfl) ?_
        obtain ⟨hi_12, hw⟩ := hw
        refine k_ist hx hb hK hH (hn _ (by decide)) (fun _ => Er_1) hi_12 dX12_view_50 (fun S13 H locs eS13 hH => ?_)
        replace hw := hw S13 eS13
        refine lv_iload hx hb dX12_view_51 (lv_at hl 0 rfl) ?_
        exact k_iret hx hb hr hlocks hK hN hH hw dX12_view_53
      · replace hw := hw.1 hc9
        refine lv_iconst (v := -1) hx hb dX12_view_24 (by decide +kernel) ?_
        exact k_iret hx hb hr hlocks hK hN hH hw dX12_view_25
def wp_X12_viewOf (a1 : Int32) (a2 : Int32) (S : St) (Q : Int32 → St → Prop) : Prop := wp_X12_isPlace a1 S (fun r2 S1 => ((r2 = 0 → Q (-1 : Int32) S1) ∧ (¬ r2 = 0 → wp_X12_isDay a2 S1 (fun r5 S4 => ((r5 = 0 → Q (-1 : Int32) S4) ∧ (¬ r5 = 0 → (vp_in (((50 : Int32) * a1) + a2) 200 ∧ Q (gA S4 1 (((50 : Int32) * a1) + a2).toNatClampNeg) S4)))))))
set_option maxHeartbeats 4000000 in
set_option maxRecDepth 100000 in
theorem c_X12_viewOf (l : Launch) (D : va_G) (kA : Nat → ClassId) (ly : Nat → Nat) (n : List Nat) (hn : ∀ c, c < 20 → c ∈ n) (A : Nat → Prop) (a1 : Int32) (a2 : Int32) : Ci l yX12_viewOf wsX12_viewOf 2 42 (Gp D (Er kA ly) ly n A kA) A [.ref (ly 0), .int a1, .int a2] (wp_X12_viewOf a1 a2) := by
  intro S Q
  refine Met.ofW (cc := cX12_viewOf) (maxL := 3) (ret := (some .int)) (by decide) rfl ?_
  intro p e s m args below meth c s₁ B hml hv
  obtain ⟨rfl, ⟨hP, hD, hK, hN⟩, hw⟩ := hv
  have hx := B.exec
  have hb := B.bytes
  have hr := B.returns
  have hts := atoms_spec (ws := wsX12_viewOf) B.pre
  have hown : s.vm.findClass RX12 = some m.cls := findClass_of_methodNamed B.named
  have hlocks := B.notSynchronized
  have hH : Hp D (Er kA ly) ly n A s.heap S s.heap [] := ⟨hP, hD, va_S.rf⟩
  have hiX12 : ∀ w ∈ u_ws RX12 TX12 39, w ∈ wsX12_viewOf := by decide +kernel
  have lk0 := hts (.fieldLink RX12 7 "SlowPanesModel" "views" "[I") (by decide +kernel)
  have hl := lv_entry ([.ref (ly 0), .int a1, .int a2]) (n := 3) (Nat.le_of_ble_eq_true rfl)
  rw [lg_entry_eq]
  generalize (lg_sl ([.ref (ly 0), .int a1, .int a2]) ++ List.replicate (3 - (lg_sl ([.ref (ly 0), .int a1, .int a2])).length) Slot.unset).toArray = ls at hl ⊢
  have hl : lv_has ls 3 [(0, .ref (ly 0)), (1, .int a1), (2, .int a2)] := hl
  rw [wp_X12_viewOf] at hw
  refine lv_iload_n hx hb dX12_viewOf_0 rfl (lv_at hl 1 rfl) ?_
  refine k_afti (va_runS (As := [.int a1]) (rest := []) ⟨hx, hb, hml, hown, hts⟩ (c_X12_isPlace l D kA ly n hn A a1 S _) (va_cwS 1 hts gX12_viewOf_X12_isPlace rfl rfl rfl (by decide +kernel) ⟨(Nat.le_of_ble_eq_true rfl), (Nat.le_of_ble_eq_true rfl)⟩) ⟨k_blind, k_pre hK hN hH hw⟩ rfl rfl hl.1 rfl (lv_room (Nat.le_of_ble_eq_true rfl)) dX12_viewOf_1 ⟨Nat.le_refl _, Nat.le_refl _⟩) hH (fun r2 S1 H locs hw hH => ?_)
  refine lv_if_eq (tgt := 28) hx hb dX12_viewOf_4 (by decide) (fun hc3 => ?_) (fun hc3 => ?_)
  · replace hw := hw.1 hc3
    refine lv_iconst (v := -1) hx hb dX12_viewOf_28 (by decide +kernel) ?_
    exact k_iret hx hb hr hlocks hK hN hH hw dX12_viewOf_29
  · replace hw := hw.2 hc3
    refine lv_iload_n hx hb dX12_viewOf_7 rfl (lv_at hl 2 rfl) ?_
    refine k_afti (va_runS (As := [.int a2]) (rest := []) ⟨hx, hb, hml, hown, hts⟩ (c_X12_isDay l D kA ly n hn A a2 S1 _) (va_cwS 1 hts gX12_viewOf_X12_isDay rfl rfl rfl (by decide +kernel) ⟨(Nat.le_of_ble_eq_true rfl), (Nat.le_of_ble_eq_true rfl)⟩) ⟨k_blind, k_pre hK hN hH hw⟩ rfl rfl hl.1 rfl (lv_room (Nat.le_of_ble_eq_true rfl)) dX12_viewOf_8 ⟨Nat.le_refl _, Nat.le_refl _⟩) hH (fun r5 S4 H locs hw hH => ?_)
    refine lv_if_eq (tgt := 28) hx hb dX12_viewOf_11 (by decide) (fun hc6 => ?_) (fun hc6 => ?_)
    · replace hw := hw.1 hc6
      refine lv_iconst (v := -1) hx hb dX12_viewOf_28 (by decide +kernel) ?_
      exact k_iret hx hb hr hlocks hK hN hH hw dX12_viewOf_29
    · replace hw := hw.2 hc6
      refine lv_aload_n hx hb dX12_viewOf_14 rfl (lv_at hl 0 rfl) ?_
      refine gf_r_0 hx hb hts hiX12 hown hK hn hH lk0 dX12_viewOf_15 ?_
      refine lv_bipush (v := 50) hx hb dX12_viewOf_18 (by decide +kernel) ?_
      refine lv_iload_n hx hb dX12_viewOf_20 rfl (lv_at hl 1 rfl) ?_
      refine lv_imul hx hb dX12_viewOf_21 ?_
      refine lv_iload_n hx hb dX12_viewOf_22 rfl (lv_at hl 2 rfl) ?_
      refine lv_iadd hx hb dX12_viewOf_23 ?_
      obtain ⟨hi_7, hw⟩ := hw
      refine k_ild hx hb hK hH (hn _ (by decide)) Er_1 hi_7 dX12_viewOf_24 ?_
      refine lv_goto (tgt := 29) hx hb dX12_viewOf_25 (by decide) ?_
      exact k_iret hx hb hr hlocks hK hN hH hw dX12_viewOf_29
def wp_X12_love (a1 : Int32) (a2 : Int32) (a3 : Int32) (S : St) (Q : Int32 → St → Prop) : Prop := wp_X12_isLooker a1 S (fun r2 S1 => ((r2 = 0 → Q (-1 : Int32) S1) ∧ (¬ r2 = 0 → wp_X12_isPlace a2 S1 (fun r5 S4 => ((r5 = 0 → Q (-1 : Int32) S4) ∧ (¬ r5 = 0 → wp_X12_in a3 (0 : Int32) (9 : Int32) S4 (fun r8 S7 => ((r8 = 0 → Q (-1 : Int32) S7) ∧ (¬ r8 = 0 → (vp_in (((4 : Int32) * a1) + a2) 12 ∧ (∀ t11 : Int32, t11 = (gA S7 2 (((4 : Int32) * a1) + a2).toNatClampNeg) → (vp_in (((4 : Int32) * a1) + a2) 12 ∧ ∀ S13 : St, S13 = sA S7 2 (((4 : Int32) * a1) + a2).toNatClampNeg a3 → Q t11 S13))))))))))))
set_option maxHeartbeats 4000000 in
set_option maxRecDepth 100000 in
theorem c_X12_love (l : Launch) (D : va_G) (kA : Nat → ClassId) (ly : Nat → Nat) (n : List Nat) (hn : ∀ c, c < 20 → c ∈ n) (A : Nat → Prop) (a1 : Int32) (a2 : Int32) (a3 : Int32) : Ci l yX12_love wsX12_love 2 42 (Gp D (Er kA ly) ly n A kA) A [.ref (ly 0), .int a1, .int a2, .int a3] (wp_X12_love a1 a2 a3) := by
  intro S Q
  refine Met.ofW (cc := cX12_love) (maxL := 5) (ret := (some .int)) (by decide) rfl ?_
  intro p e s m args below meth c s₁ B hml hv
  obtain ⟨rfl, ⟨hP, hD, hK, hN⟩, hw⟩ := hv
  have hx := B.exec
  have hb := B.bytes
  have hr := B.returns
  have hts := atoms_spec (ws := wsX12_love) B.pre
  have hown : s.vm.findClass RX12 = some m.cls := findClass_of_methodNamed B.named
  have hlocks := B.notSynchronized
  have hH : Hp D (Er kA ly) ly n A s.heap S s.heap [] := ⟨hP, hD, va_S.rf⟩
  have hiX12 : ∀ w ∈ u_ws RX12 TX12 39, w ∈ wsX12_love := by decide +kernel
  have lk0 := hts (.fieldLink RX12 13 "SlowPanesModel" "loves" "[I") (by decide +kernel)
  have hl := lv_entry ([.ref (ly 0), .int a1, .int a2, .int a3]) (n := 5) (Nat.le_of_ble_eq_true rfl)
  rw [lg_entry_eq]
  generalize (lg_sl ([.ref (ly 0), .int a1, .int a2, .int a3]) ++ List.replicate (5 - (lg_sl ([.ref (ly 0), .int a1, .int a2, .int a3])).length) Slot.unset).toArray = ls at hl ⊢
  have hl : lv_has ls 5 [(0, .ref (ly 0)), (1, .int a1), (2, .int a2), (3, .int a3)] := hl
  rw [wp_X12_love] at hw
  refine lv_iload_n hx hb dX12_love_0 rfl (lv_at hl 1 rfl) ?_
  refine k_afti (va_runS (As := [.int a1]) (rest := []) ⟨hx, hb, hml, hown, hts⟩ (c_X12_isLooker l D kA ly n hn A a1 S _) (va_cwS 1 hts gX12_love_X12_isLooker rfl rfl rfl (by decide +kernel) ⟨(Nat.le_of_ble_eq_true rfl), (Nat.le_of_ble_eq_true rfl)⟩) ⟨k_blind, k_pre hK hN hH hw⟩ rfl rfl hl.1 rfl (lv_room (Nat.le_of_ble_eq_true rfl)) dX12_love_1 ⟨Nat.le_refl _, Nat.le_refl _⟩) hH (fun r2 S1 H locs hw hH => ?_)
  refine lv_if_eq (tgt := 24) hx hb dX12_love_4 (by decide) (fun hc3 => ?_) (fun hc3 => ?_)
  · replace hw := hw.1 hc3
    refine lv_iconst (v := -1) hx hb dX12_love_24 (by decide +kernel) ?_
    exact k_iret hx hb hr hlocks hK hN hH hw dX12_love_25
  · replace hw := hw.2 hc3
    refine lv_iload_n hx hb dX12_love_7 rfl (lv_at hl 2 rfl) ?_
    refine k_afti (va_runS (As := [.int a2]) (rest := []) ⟨hx, hb, hml, hown, hts⟩ (c_X12_isPlace l D kA ly n hn A a2 S1 _) (va_cwS 1 hts gX12_love_X12_isPlace rfl rfl rfl (by decide +kernel) ⟨(Nat.le_of_ble_eq_true rfl), (Nat.le_of_ble_eq_true rfl)⟩) ⟨k_blind, k_pre hK hN hH hw⟩ rfl rfl hl.1 rfl (lv_room (Nat.le_of_ble_eq_true rfl)) dX12_love_8 ⟨Nat.le_refl _, Nat.le_refl _⟩) hH (fun r5 S4 H locs hw hH => ?_)
    refine lv_if_eq (tgt := 24) hx hb dX12_love_11 (by decide) (fun hc6 => ?_) (fun hc6 => ?_)
    · replace hw := hw.1 hc6
      refine lv_iconst (v := -1) hx hb dX12_love_24 (by decide +kernel) ?_
      exact k_iret hx hb hr hlocks hK hN hH hw dX12_love_25
    · replace hw := hw.2 hc6
      refine lv_iload_n hx hb dX12_love_14 rfl (lv_at hl 3 rfl) ?_
      refine lv_iconst (v := 0) hx hb dX12_love_15 (by decide +kernel) ?_
      refine lv_bipush (v := 9) hx hb dX12_love_16 (by decide +kernel) ?_
      refine k_afti (va_runS (As := [.int a3, .int (0 : Int32), .int (9 : Int32)]) (rest := []) ⟨hx, hb, hml, hown, hts⟩ (c_X12_in l D kA ly n hn A a3 (0 : Int32) (9 : Int32) S4 _) (va_cwS 3 hts gX12_love_X12_in rfl rfl rfl (by decide +kernel) ⟨(Nat.le_of_ble_eq_true rfl), (Nat.le_of_ble_eq_true rfl)⟩) ⟨k_blind, k_pre hK hN hH hw⟩ rfl rfl hl.1 rfl (lv_room (Nat.le_of_ble_eq_true rfl)) dX12_love_18 ⟨Nat.le_refl _, Nat.le_refl _⟩) hH (fun r8 S7 H locs hw hH => ?_)
      refine lv_if_ne (tgt := 26) hx hb dX12_love_21 (by decide) (fun hc9 => ?_) (fun hc9 => ?_)
      · replace hw := hw.2 hc9
        refine lv_aload_n hx hb dX12_love_26 rfl (lv_at hl 0 rfl) ?_
        refine gf_r_1 hx hb hts hiX12 hown hK hn hH lk0 dX12_love_27 ?_
        refine lv_iconst (v := 4) hx hb dX12_love_30 (by decide +kernel) ?_
        refine lv_iload_n hx hb dX12_love_31 rfl (lv_at hl 1 rfl) ?_
        refine lv_imul hx hb dX12_love_32 ?_
        refine lv_iload_n hx hb dX12_love_33 rfl (lv_at hl 2 rfl) ?_
        refine lv_iadd hx hb dX12_love_34 ?_
        obtain ⟨hi_10, hw⟩ := hw
        refine k_ild hx hb hK hH (hn _ (by decide)) Er_2 hi_10 dX12_love_35 ?_
        refine lv_topi (fun t11 et11 => ?_)
        replace hw := hw t11 et11
        refine lv_istore (lv' := [(4, .int t11), (0, .ref (ly 0)), (1, .int a1), (2, .int a2), (3, .int a3)]) hx hb dX12_love_36 hl (by decide) rfl (fun ls hl => ?_)
        refine lv_aload_n hx hb dX12_love_38 rfl (lv_at hl 1 rfl) ?_
        refine gf_r_1 hx hb hts hiX12 hown hK hn hH lk0 dX12_love_39 ?_
        refine lv_iconst (v := 4) hx hb dX12_love_42 (by decide +kernel) ?_
        refine lv_iload_n hx hb dX12_love_43 rfl (lv_at hl 2 rfl) ?_
        refine lv_imul hx hb dX12_love_44 ?_
        refine lv_iload_n hx hb dX12_love_45 rfl (lv_at hl 3 rfl) ?_
        refine lv_iadd hx hb dX12_love_46 ?_
        refine lv_iload_n hx hb dX12_love_47 rfl (lv_at hl 4 rfl) ?_
        obtain ⟨hi_12, hw⟩ := hw
        refine k_ist hx hb hK hH (hn _ (by decide)) (fun _ => Er_2) hi_12 dX12_love_48 (fun S13 H locs eS13 hH => ?_)
        replace hw := hw S13 eS13
        refine lv_iload hx hb dX12_love_49 (lv_at hl 0 rfl) ?_
        exact k_iret hx hb hr hlocks hK hN hH hw dX12_love_51
      · replace hw := hw.1 hc9
        refine lv_iconst (v := -1) hx hb dX12_love_24 (by decide +kernel) ?_
        exact k_iret hx hb hr hlocks hK hN hH hw dX12_love_25
def wp_X12_pane (a1 : Int32) (a2 : Int32) (S : St) (Q : Int32 → St → Prop) : Prop := wp_X12_in a1 (0 : Int32) (5 : Int32) S (fun r2 S1 => ((r2 = 0 → Q (-1 : Int32) S1) ∧ (¬ r2 = 0 → wp_X12_in a2 (1 : Int32) (16 : Int32) S1 (fun r5 S4 => ((r5 = 0 → Q (-1 : Int32) S4) ∧ (¬ r5 = 0 → (vp_in (1 : Int32) 232 ∧ (((gA S4 3 (1 : Int32).toNatClampNeg) = (6 : Int32) → Q (-2 : Int32) S4) ∧ (¬ (gA S4 3 (1 : Int32).toNatClampNeg) = (6 : Int32) → (vp_in (1 : Int32) 232 ∧ wp_X12_makes (gA S4 3 (1 : Int32).toNatClampNeg) a1 a2 (4 : Int32) S4 (fun S10 => (vp_in (1 : Int32) 232 ∧ (vp_in (1 : Int32) 232 ∧ ∀ S13 : St, S13 = sA S10 3 (1 : Int32).toNatClampNeg ((gA S10 3 (1 : Int32).toNatClampNeg) + (1 : Int32)) → (vp_in (1 : Int32) 232 ∧ Q ((gA S13 3 (1 : Int32).toNatClampNeg) - (1 : Int32)) S13))))))))))))))
set_option maxHeartbeats 4000000 in
set_option maxRecDepth 100000 in
theorem c_X12_pane (l : Launch) (D : va_G) (kA : Nat → ClassId) (ly : Nat → Nat) (n : List Nat) (hn : ∀ c, c < 20 → c ∈ n) (A : Nat → Prop) (a1 : Int32) (a2 : Int32) : Ci l yX12_pane wsX12_pane 2 48 (Gp D (Er kA ly) ly n A kA) A [.ref (ly 0), .int a1, .int a2] (wp_X12_pane a1 a2) := by
  intro S Q
  refine Met.ofW (cc := cX12_pane) (maxL := 3) (ret := (some .int)) (by decide) rfl ?_
  intro p e s m args below meth c s₁ B hml hv
  obtain ⟨rfl, ⟨hP, hD, hK, hN⟩, hw⟩ := hv
  have hx := B.exec
  have hb := B.bytes
  have hr := B.returns
  have hts := atoms_spec (ws := wsX12_pane) B.pre
  have hown : s.vm.findClass RX12 = some m.cls := findClass_of_methodNamed B.named
  have hlocks := B.notSynchronized
  have hH : Hp D (Er kA ly) ly n A s.heap S s.heap [] := ⟨hP, hD, va_S.rf⟩
  have hiX12 : ∀ w ∈ u_ws RX12 TX12 39, w ∈ wsX12_pane := by decide +kernel
  have lk0 := hts (.fieldLink RX12 16 "SlowPanesModel" "row" "[I") (by decide +kernel)
  have hl := lv_entry ([.ref (ly 0), .int a1, .int a2]) (n := 3) (Nat.le_of_ble_eq_true rfl)
  rw [lg_entry_eq]
  generalize (lg_sl ([.ref (ly 0), .int a1, .int a2]) ++ List.replicate (3 - (lg_sl ([.ref (ly 0), .int a1, .int a2])).length) Slot.unset).toArray = ls at hl ⊢
  have hl : lv_has ls 3 [(0, .ref (ly 0)), (1, .int a1), (2, .int a2)] := hl
  rw [wp_X12_pane] at hw
  refine lv_iload_n hx hb dX12_pane_0 rfl (lv_at hl 1 rfl) ?_
  refine lv_iconst (v := 0) hx hb dX12_pane_1 (by decide +kernel) ?_
  refine lv_iconst (v := 5) hx hb dX12_pane_2 (by decide +kernel) ?_
  refine k_afti (va_runS (As := [.int a1, .int (0 : Int32), .int (5 : Int32)]) (rest := []) ⟨hx, hb, hml, hown, hts⟩ (c_X12_in l D kA ly n hn A a1 (0 : Int32) (5 : Int32) S _) (va_cwS 3 hts gX12_pane_X12_in rfl rfl rfl (by decide +kernel) ⟨(Nat.le_of_ble_eq_true rfl), (Nat.le_of_ble_eq_true rfl)⟩) ⟨k_blind, k_pre hK hN hH hw⟩ rfl rfl hl.1 rfl (lv_room (Nat.le_of_ble_eq_true rfl)) dX12_pane_3 ⟨Nat.le_refl _, Nat.le_refl _⟩) hH (fun r2 S1 H locs hw hH => ?_)
  refine lv_if_eq (tgt := 19) hx hb dX12_pane_6 (by decide) (fun hc3 => ?_) (fun hc3 => ?_)
  · replace hw := hw.1 hc3
    refine lv_iconst (v := -1) hx hb dX12_pane_19 (by decide +kernel) ?_
    exact k_iret hx hb hr hlocks hK hN hH hw dX12_pane_20
  · replace hw := hw.2 hc3
    refine lv_iload_n hx hb dX12_pane_9 rfl (lv_at hl 2 rfl) ?_
    refine lv_iconst (v := 1) hx hb dX12_pane_10 (by decide +kernel) ?_
    refine lv_bipush (v := 16) hx hb dX12_pane_11 (by decide +kernel) ?_
    refine k_afti (va_runS (As := [.int a2, .int (1 : Int32), .int (16 : Int32)]) (rest := []) ⟨hx, hb, hml, hown, hts⟩ (c_X12_in l D kA ly n hn A a2 (1 : Int32) (16 : Int32) S1 _) (va_cwS 3 hts gX12_pane_X12_in rfl rfl rfl (by decide +kernel) ⟨(Nat.le_of_ble_eq_true rfl), (Nat.le_of_ble_eq_true rfl)⟩) ⟨k_blind, k_pre hK hN hH hw⟩ rfl rfl hl.1 rfl (lv_room (Nat.le_of_ble_eq_true rfl)) dX12_pane_13 ⟨Nat.le_refl _, Nat.le_refl _⟩) hH (fun r5 S4 H locs hw hH => ?_)
    refine lv_if_ne (tgt := 21) hx hb dX12_pane_16 (by decide) (fun hc6 => ?_) (fun hc6 => ?_)
    · replace hw := hw.2 hc6
      refine lv_aload_n hx hb dX12_pane_21 rfl (lv_at hl 0 rfl) ?_
      refine gf_r_2 hx hb hts hiX12 hown hK hn hH lk0 dX12_pane_22 ?_
      refine lv_iconst (v := 1) hx hb dX12_pane_25 (by decide +kernel) ?_
      obtain ⟨hi_7, hw⟩ := hw
      refine k_ild hx hb hK hH (hn _ (by decide)) Er_3 hi_7 dX12_pane_26 ?_
      refine lv_bipush (v := 6) hx hb dX12_pane_27 (by decide +kernel) ?_
      refine lv_icmp_ne (tgt := 35) hx hb dX12_pane_29 (by decide) (fun hc8 => ?_) (fun hc8 => ?_)
      · replace hw := hw.2 hc8
        refine lv_aload_n hx hb dX12_pane_35 rfl (lv_at hl 0 rfl) ?_
        refine lv_aload_n hx hb dX12_pane_36 rfl (lv_at hl 0 rfl) ?_
        refine gf_r_2 hx hb hts hiX12 hown hK hn hH lk0 dX12_pane_37 ?_
        refine lv_iconst (v := 1) hx hb dX12_pane_40 (by decide +kernel) ?_
        obtain ⟨hi_9, hw⟩ := hw
        refine k_ild hx hb hK hH (hn _ (by decide)) Er_3 hi_9 dX12_pane_41 ?_
        refine lv_iload_n hx hb dX12_pane_42 rfl (lv_at hl 1 rfl) ?_
        refine lv_iload_n hx hb dX12_pane_43 rfl (lv_at hl 2 rfl) ?_
        refine lv_iconst (v := 4) hx hb dX12_pane_44 (by decide +kernel) ?_
        refine k_aftv (va_runV (As := [.int (gA S4 3 (1 : Int32).toNatClampNeg), .int a1, .int a2, .int (4 : Int32)]) (rest := []) ⟨hx, hb, hml, hown, hts⟩ (c_X12_makes l D kA ly n hn A (gA S4 3 (1 : Int32).toNatClampNeg) a1 a2 (4 : Int32) S4 _) (cwV 4 hts gX12_pane_X12_makes rfl rfl rfl (by decide +kernel) ⟨(Nat.le_of_ble_eq_true rfl), (Nat.le_of_ble_eq_true rfl)⟩) ⟨k_blind, (k_recv hK hH (hn _ (by decide)) Er_0 rfl), k_pre hK hN hH hw⟩ rfl rfl hl.1 rfl (lv_room (Nat.le_of_ble_eq_true rfl)) dX12_pane_45 ⟨Nat.le_refl _, Nat.le_refl _⟩) hH (fun S10 H locs hw hH => ?_)
        refine lv_aload_n hx hb dX12_pane_48 rfl (lv_at hl 0 rfl) ?_
        refine gf_r_2 hx hb hts hiX12 hown hK hn hH lk0 dX12_pane_49 ?_
        refine lv_iconst (v := 1) hx hb dX12_pane_52 (by decide +kernel) ?_
        refine lv_dup2_11 hx hb dX12_pane_53 rfl rfl ?_
        obtain ⟨hi_11, hw⟩ := hw
        refine k_ild hx hb hK hH (hn _ (by decide)) Er_3 hi_11 dX12_pane_54 ?_
        refine lv_iconst (v := 1) hx hb dX12_pane_55 (by decide +kernel) ?_
        refine lv_iadd hx hb dX12_pane_56 ?_
        obtain ⟨hi_12, hw⟩ := hw
        refine k_ist hx hb hK hH (hn _ (by decide)) (fun _ => Er_3) hi_12 dX12_pane_57 (fun S13 H locs eS13 hH => ?_)
        replace hw := hw S13 eS13
        refine lv_aload_n hx hb dX12_pane_58 rfl (lv_at hl 0 rfl) ?_
        refine gf_r_2 hx hb hts hiX12 hown hK hn hH lk0 dX12_pane_59 ?_
        refine lv_iconst (v := 1) hx hb dX12_pane_62 (by decide +kernel) ?_
        obtain ⟨hi_14, hw⟩ := hw
        refine k_ild hx hb hK hH (hn _ (by decide)) Er_3 hi_14 dX12_pane_63 ?_
        refine lv_iconst (v := 1) hx hb dX12_pane_64 (by decide +kernel) ?_
        refine lv_isub hx hb dX12_pane_65 ?_
        exact k_iret hx hb hr hlocks hK hN hH hw dX12_pane_66
      · replace hw := hw.1 hc8
        refine lv_bipush (v := -2) hx hb dX12_pane_32 (by decide +kernel) ?_
        exact k_iret hx hb hr hlocks hK hN hH hw dX12_pane_34
    · replace hw := hw.1 hc6
      refine lv_iconst (v := -1) hx hb dX12_pane_19 (by decide +kernel) ?_
      exact k_iret hx hb hr hlocks hK hN hH hw dX12_pane_20
def wp_X12_movesBy (a0 : Int32) (a1 : Int32) (S : St) (Q : Int32 → St → Prop) : Prop := ((a0 = (1 : Int32) → (((a1 - a1 / (2 : Int32) * (2 : Int32)) = 0 → Q (1 : Int32) S) ∧ (¬ (a1 - a1 / (2 : Int32) * (2 : Int32)) = 0 → Q (0 : Int32) S))) ∧ (¬ a0 = (1 : Int32) → ((a0 = (2 : Int32) → (((a1 - a1 / (4 : Int32) * (4 : Int32)) = 0 → Q (1 : Int32) S) ∧ (¬ (a1 - a1 / (4 : Int32) * (4 : Int32)) = 0 → Q (0 : Int32) S))) ∧ (¬ a0 = (2 : Int32) → Q (1 : Int32) S))))
set_option maxHeartbeats 4000000 in
set_option maxRecDepth 100000 in
theorem c_X12_movesBy (l : Launch) (D : va_G) (kA : Nat → ClassId) (ly : Nat → Nat) (n : List Nat) (hn : ∀ c, c < 20 → c ∈ n) (A : Nat → Prop) (a0 : Int32) (a1 : Int32) : Ci l yX12_movesBy wsX12_movesBy 0 0 (Gp D (Er kA ly) ly n A kA) A [.int a0, .int a1] (wp_X12_movesBy a0 a1) := by
  intro S Q
  refine Met.ofW (cc := cX12_movesBy) (maxL := 2) (ret := (some .boolean)) (by decide) rfl ?_
  intro p e s m args below meth c s₁ B hml hv
  obtain ⟨rfl, ⟨hP, hD, hK, hN⟩, hw⟩ := hv
  have hx := B.exec
  have hb := B.bytes
  have hr := B.returns
  have hts := atoms_spec (ws := wsX12_movesBy) B.pre
  have hown : s.vm.findClass RX12 = some m.cls := findClass_of_methodNamed B.named
  have hlocks := B.notSynchronized
  have hH : Hp D (Er kA ly) ly n A s.heap S s.heap [] := ⟨hP, hD, va_S.rf⟩
  have hl := lv_entry ([.int a0, .int a1]) (n := 2) (Nat.le_of_ble_eq_true rfl)
  rw [lg_entry_eq]
  generalize (lg_sl ([.int a0, .int a1]) ++ List.replicate (2 - (lg_sl ([.int a0, .int a1])).length) Slot.unset).toArray = ls at hl ⊢
  have hl : lv_has ls 2 [(0, .int a0), (1, .int a1)] := hl
  rw [wp_X12_movesBy] at hw
  refine lv_iload_n hx hb dX12_movesBy_0 rfl (lv_at hl 0 rfl) ?_
  refine lv_iconst (v := 1) hx hb dX12_movesBy_1 (by decide +kernel) ?_
  refine lv_icmp_ne (tgt := 19) hx hb dX12_movesBy_2 (by decide) (fun hc1 => ?_) (fun hc1 => ?_)
  · replace hw := hw.2 hc1
    refine lv_iload_n hx hb dX12_movesBy_19 rfl (lv_at hl 0 rfl) ?_
    refine lv_iconst (v := 2) hx hb dX12_movesBy_20 (by decide +kernel) ?_
    refine lv_icmp_ne (tgt := 30) hx hb dX12_movesBy_21 (by decide) (fun hc2 => ?_) (fun hc2 => ?_)
    · replace hw := hw.2 hc2
      refine lv_iconst (v := 1) hx hb dX12_movesBy_30 (by decide +kernel) ?_
      refine lv_goto (tgt := 35) hx hb dX12_movesBy_31 (by decide) ?_
      exact k_zret hx hb hr hlocks hK hN hH rfl hw dX12_movesBy_35
    · replace hw := hw.1 hc2
      refine lv_iload_n hx hb dX12_movesBy_24 rfl (lv_at hl 1 rfl) ?_
      refine lv_iconst (v := 4) hx hb dX12_movesBy_25 (by decide +kernel) ?_
      refine lv_irem hx hb dX12_movesBy_26 (by decide) ?_
      refine lv_if_ne (tgt := 34) hx hb dX12_movesBy_27 (by decide) (fun hc3 => ?_) (fun hc3 => ?_)
      · replace hw := hw.2 hc3
        refine lv_iconst (v := 0) hx hb dX12_movesBy_34 (by decide +kernel) ?_
        exact k_zret hx hb hr hlocks hK hN hH rfl hw dX12_movesBy_35
      · replace hw := hw.1 hc3
        refine lv_iconst (v := 1) hx hb dX12_movesBy_30 (by decide +kernel) ?_
        refine lv_goto (tgt := 35) hx hb dX12_movesBy_31 (by decide) ?_
        exact k_zret hx hb hr hlocks hK hN hH rfl hw dX12_movesBy_35
  · replace hw := hw.1 hc1
    refine lv_iload_n hx hb dX12_movesBy_5 rfl (lv_at hl 1 rfl) ?_
    refine lv_iconst (v := 2) hx hb dX12_movesBy_6 (by decide +kernel) ?_
    refine lv_irem hx hb dX12_movesBy_7 (by decide) ?_
    refine lv_if_ne (tgt := 15) hx hb dX12_movesBy_8 (by decide) (fun hc4 => ?_) (fun hc4 => ?_)
    · replace hw := hw.2 hc4
      refine lv_iconst (v := 0) hx hb dX12_movesBy_15 (by decide +kernel) ?_
      refine lv_goto (tgt := 35) hx hb dX12_movesBy_16 (by decide) ?_
      exact k_zret hx hb hr hlocks hK hN hH rfl hw dX12_movesBy_35
    · replace hw := hw.1 hc4
      refine lv_iconst (v := 1) hx hb dX12_movesBy_11 (by decide +kernel) ?_
      refine lv_goto (tgt := 35) hx hb dX12_movesBy_12 (by decide) ?_
      exact k_zret hx hb hr hlocks hK hN hH rfl hw dX12_movesBy_35
def wp_X12_lastOf (a1 : Int32) (S : St) (Q : Int32 → St → Prop) : Prop := wp_X12_its a1 (1 : Int32) S (fun r2 S1 => wp_X12_its a1 (((3 : Int32) + r2) - (1 : Int32)) S1 (fun r4 S3 => Q r4 S3))
set_option maxHeartbeats 4000000 in
set_option maxRecDepth 100000 in
theorem c_X12_lastOf (l : Launch) (D : va_G) (kA : Nat → ClassId) (ly : Nat → Nat) (n : List Nat) (hn : ∀ c, c < 20 → c ∈ n) (A : Nat → Prop) (a1 : Int32) : Ci l yX12_lastOf wsX12_lastOf 1 22 (Gp D (Er kA ly) ly n A kA) A [.ref (ly 0), .int a1] (wp_X12_lastOf a1) := by
  intro S Q
  refine Met.ofW (cc := cX12_lastOf) (maxL := 2) (ret := (some .int)) (by decide) rfl ?_
  intro p e s m args below meth c s₁ B hml hv
  obtain ⟨rfl, ⟨hP, hD, hK, hN⟩, hw⟩ := hv
  have hx := B.exec
  have hb := B.bytes
  have hr := B.returns
  have hts := atoms_spec (ws := wsX12_lastOf) B.pre
  have hown : s.vm.findClass RX12 = some m.cls := findClass_of_methodNamed B.named
  have hlocks := B.notSynchronized
  have hH : Hp D (Er kA ly) ly n A s.heap S s.heap [] := ⟨hP, hD, va_S.rf⟩
  have hl := lv_entry ([.ref (ly 0), .int a1]) (n := 2) (Nat.le_of_ble_eq_true rfl)
  rw [lg_entry_eq]
  generalize (lg_sl ([.ref (ly 0), .int a1]) ++ List.replicate (2 - (lg_sl ([.ref (ly 0), .int a1])).length) Slot.unset).toArray = ls at hl ⊢
  have hl : lv_has ls 2 [(0, .ref (ly 0)), (1, .int a1)] := hl
  rw [wp_X12_lastOf] at hw
  refine lv_aload_n hx hb dX12_lastOf_0 rfl (lv_at hl 0 rfl) ?_
  refine lv_iload_n hx hb dX12_lastOf_1 rfl (lv_at hl 1 rfl) ?_
  refine lv_iconst (v := 3) hx hb dX12_lastOf_2 (by decide +kernel) ?_
  refine lv_aload_n hx hb dX12_lastOf_3 rfl (lv_at hl 0 rfl) ?_
  refine lv_iload_n hx hb dX12_lastOf_4 rfl (lv_at hl 1 rfl) ?_
  refine lv_iconst (v := 1) hx hb dX12_lastOf_5 (by decide +kernel) ?_
  refine k_afti (va_runV (As := [.int a1, .int (1 : Int32)]) (rest := [.int (3 : Int32), .int a1, .ref (ly 0)]) ⟨hx, hb, hml, hown, hts⟩ (c_X12_its l D kA ly n hn A a1 (1 : Int32) S _) (cwV 2 hts gX12_lastOf_X12_its rfl rfl rfl (by decide +kernel) ⟨(Nat.le_of_ble_eq_true rfl), (Nat.le_of_ble_eq_true rfl)⟩) ⟨k_blind, (k_recv hK hH (hn _ (by decide)) Er_0 rfl), k_pre hK hN hH hw⟩ rfl rfl hl.1 rfl (lv_room (Nat.le_of_ble_eq_true rfl)) dX12_lastOf_6 ⟨Nat.le_refl _, Nat.le_refl _⟩) hH (fun r2 S1 H locs hw hH => ?_)
  refine lv_iadd hx hb dX12_lastOf_9 ?_
  refine lv_iconst (v := 1) hx hb dX12_lastOf_10 (by decide +kernel) ?_
  refine lv_isub hx hb dX12_lastOf_11 ?_
  refine k_afti (va_runV (As := [.int a1, .int (((3 : Int32) + r2) - (1 : Int32))]) (rest := []) ⟨hx, hb, hml, hown, hts⟩ (c_X12_its l D kA ly n hn A a1 (((3 : Int32) + r2) - (1 : Int32)) S1 _) (cwV 2 hts gX12_lastOf_X12_its rfl rfl rfl (by decide +kernel) ⟨(Nat.le_of_ble_eq_true rfl), (Nat.le_of_ble_eq_true rfl)⟩) ⟨k_blind, (k_recv hK hH (hn _ (by decide)) Er_0 rfl), k_pre hK hN hH hw⟩ rfl rfl hl.1 rfl (lv_room (Nat.le_of_ble_eq_true rfl)) dX12_lastOf_12 ⟨Nat.le_refl _, Nat.le_refl _⟩) hH (fun r4 S3 H locs hw hH => ?_)
  exact k_iret hx hb hr hlocks hK hN hH hw dX12_lastOf_15
