def wp_X6_has (n : List Nat) (o : Nat) (a1 : Int32) (S : St) (Q : Int32 → St → Prop) : Prop := (isSh n S o ∧ ((a1 < 0 → Q (0 : Int32) S) ∧ (¬ a1 < 0 → (∀ o2 : Nat, o2 = (gN S o 1) → isIt n S o2 ∧ (((Int32.ofNat (gN S o2 0)) ≤ a1 → Q (0 : Int32) S) ∧ (¬ (Int32.ofNat (gN S o2 0)) ≤ a1 → Q (1 : Int32) S))))))
set_option maxHeartbeats 4000000 in
set_option maxRecDepth 100000 in
theorem c_X6_has (l : Launch) (D : va_G) (kA : Nat → ClassId) (ly : Nat → Nat) (n : List Nat) (hn : ∀ c, c < 59 → c ∈ n) (A : Nat → Prop) (o : Nat) (a1 : Int32) : Ci l yX6_has wsX6_has 0 0 (Gp D (Ec kA ly) ly n A kA) A [.ref (ly o), .int a1] (wp_X6_has n o a1) := by
  intro S Q
  refine Met.ofW (cc := cX6_has) (maxL := 2) (ret := (some .boolean)) (by decide) rfl ?_
  intro p e s m args below meth c s₁ B hml hv
  obtain ⟨rfl, ⟨hP, hD, hK, hN⟩, hw⟩ := hv
  have hx := B.exec
  have hb := B.bytes
  have hr := B.returns
  have hts := atoms_spec (ws := wsX6_has) B.pre
  have hown : s.vm.findClass RX6 = some m.cls := findClass_of_methodNamed B.named
  have hlocks := B.notSynchronized
  have hH : Hp D (Ec kA ly) ly n A s.heap S s.heap [] := ⟨hP, hD, va_S.rf⟩
  have hiX6 : ∀ w ∈ u_ws RX6 TX6 2, w ∈ wsX6_has := by decide +kernel
  have lk0 := hts (.fieldLink RX6 15 "SlowPanes$Sheet" "items" "[I") (by decide +kernel)
  have hl := lv_entry ([.ref (ly o), .int a1]) (n := 2) (Nat.le_of_ble_eq_true rfl)
  rw [lg_entry_eq]
  generalize (lg_sl ([.ref (ly o), .int a1]) ++ List.replicate (2 - (lg_sl ([.ref (ly o), .int a1])).length) Slot.unset).toArray = ls at hl ⊢
  have hl : lv_has ls 2 [(0, .ref (ly o)), (1, .int a1)] := hl
  rw [wp_X6_has] at hw
  obtain ⟨ho, hw⟩ := hw
  refine lv_iload_n hx hb dX6_has_0 rfl (lv_at hl 1 rfl) ?_
  refine lv_if_lt (tgt := 17) hx hb dX6_has_1 (by decide) (fun hc1 => ?_) (fun hc1 => ?_)
  · replace hw := hw.1 hc1
    refine lv_iconst (v := 0) hx hb dX6_has_17 (by decide +kernel) ?_
    exact k_zret hx hb hr hlocks hK hN hH rfl hw dX6_has_18
  · replace hw := hw.2 hc1
    refine lv_iload_n hx hb dX6_has_4 rfl (lv_at hl 1 rfl) ?_
    refine lv_aload_n hx hb dX6_has_5 rfl (lv_at hl 0 rfl) ?_
    refine gf_sh_1 hx hb hts hiX6 hown hK hn hH ho lk0 dX6_has_6 ?_
    obtain ⟨o2, eo2⟩ : ∃ y : Nat, y = (gN S o 1) := ⟨_, rfl⟩
    obtain ⟨ho2, hw⟩ := hw o2 eo2
    rw [← eo2]
    refine k_alen (t0 := 0) hx hb hK hH ho2.2.1 rfl (Ec_it ho2) rfl dX6_has_9 ?_
    refine lv_icmp_ge (tgt := 17) hx hb dX6_has_10 (by decide) (fun hc3 => ?_) (fun hc3 => ?_)
    · replace hw := hw.1 hc3
      refine lv_iconst (v := 0) hx hb dX6_has_17 (by decide +kernel) ?_
      exact k_zret hx hb hr hlocks hK hN hH rfl hw dX6_has_18
    · replace hw := hw.2 hc3
      refine lv_iconst (v := 1) hx hb dX6_has_13 (by decide +kernel) ?_
      refine lv_goto (tgt := 18) hx hb dX6_has_14 (by decide) ?_
      exact k_zret hx hb hr hlocks hK hN hH rfl hw dX6_has_18
def wp_X6_narrowed (n : List Nat) (o : Nat) (a1 : Int32) (S : St) (Q : Int32 → St → Prop) : Prop := (isSh n S o ∧ (((gI S o 0) = 0 → Q (a1.toInt8.toInt32) S) ∧ (¬ (gI S o 0) = 0 → (((gI S o 0) = 1 → Q (a1.toInt16.toInt32) S) ∧ (¬ (gI S o 0) = 1 → Q a1 S)))))
set_option maxHeartbeats 4000000 in
set_option maxRecDepth 100000 in
theorem c_X6_narrowed (l : Launch) (D : va_G) (kA : Nat → ClassId) (ly : Nat → Nat) (n : List Nat) (hn : ∀ c, c < 59 → c ∈ n) (A : Nat → Prop) (o : Nat) (a1 : Int32) : Ci l yX6_narrowed wsX6_narrowed 0 0 (Gp D (Ec kA ly) ly n A kA) A [.ref (ly o), .int a1] (wp_X6_narrowed n o a1) := by
  intro S Q
  refine Met.ofW (cc := cX6_narrowed) (maxL := 2) (ret := (some .int)) (by decide) rfl ?_
  intro p e s m args below meth c s₁ B hml hv
  obtain ⟨rfl, ⟨hP, hD, hK, hN⟩, hw⟩ := hv
  have hx := B.exec
  have hb := B.bytes
  have hr := B.returns
  have hts := atoms_spec (ws := wsX6_narrowed) B.pre
  have hown : s.vm.findClass RX6 = some m.cls := findClass_of_methodNamed B.named
  have hlocks := B.notSynchronized
  have hH : Hp D (Ec kA ly) ly n A s.heap S s.heap [] := ⟨hP, hD, va_S.rf⟩
  have hiX6 : ∀ w ∈ u_ws RX6 TX6 2, w ∈ wsX6_narrowed := by decide +kernel
  have lk0 := hts (.fieldLink RX6 9 "SlowPanes$Sheet" "sort" "I") (by decide +kernel)
  have hl := lv_entry ([.ref (ly o), .int a1]) (n := 2) (Nat.le_of_ble_eq_true rfl)
  rw [lg_entry_eq]
  generalize (lg_sl ([.ref (ly o), .int a1]) ++ List.replicate (2 - (lg_sl ([.ref (ly o), .int a1])).length) Slot.unset).toArray = ls at hl ⊢
  have hl : lv_has ls 2 [(0, .ref (ly o)), (1, .int a1)] := hl
  rw [wp_X6_narrowed] at hw
  obtain ⟨ho, hw⟩ := hw
  refine lv_aload_n hx hb dX6_narrowed_0 rfl (lv_at hl 0 rfl) ?_
  refine gf_sh_0 hx hb hts hiX6 hown hK hn hH ho lk0 dX6_narrowed_1 ?_
  by_cases hc1 : (gI S o 0) = 0
  · replace hw := hw.1 hc1
    refine lv_lookup (tgt := 32) hx hb dX6_narrowed_4 (by decide) (by rw [hc1]; first | done | rfl) (by decide) ?_
    refine lv_iload_n hx hb dX6_narrowed_32 rfl (lv_at hl 1 rfl) ?_
    refine lv_i2b hx hb dX6_narrowed_33 rfl ?_
    exact k_iret hx hb hr hlocks hK hN hH hw dX6_narrowed_34
  · replace hw := hw.2 hc1
    by_cases hc2 : (gI S o 0) = 1
    · replace hw := hw.1 hc2
      refine lv_lookup (tgt := 35) hx hb dX6_narrowed_4 (by decide) (by rw [hc2]; first | done | rfl) (by decide) ?_
      refine lv_iload_n hx hb dX6_narrowed_35 rfl (lv_at hl 1 rfl) ?_
      refine lv_i2s hx hb dX6_narrowed_36 rfl ?_
      exact k_iret hx hb hr hlocks hK hN hH hw dX6_narrowed_37
    · replace hw := hw.2 hc2
      refine lv_lookup (tgt := 38) hx hb dX6_narrowed_4 (by decide) (lk_out_0_1 hc1 hc2) (by decide) ?_
      refine lv_iload_n hx hb dX6_narrowed_38 rfl (lv_at hl 1 rfl) ?_
      exact k_iret hx hb hr hlocks hK hN hH hw dX6_narrowed_39
def wp_X9_clear  (S : St) (Q : St → Prop) : Prop := (∀ S1 : St, S1 = sI S 7 1 (0 : Int32) → (∀ S2 : St, S2 = sI S1 7 2 (0 : Int32) → Q S2))
set_option maxHeartbeats 4000000 in
set_option maxRecDepth 100000 in
theorem c_X9_clear (l : Launch) (D : va_G) (kA : Nat → ClassId) (ly : Nat → Nat) (n : List Nat) (hn : ∀ c, c < 59 → c ∈ n) (A : Nat → Prop)  : Cv l yX9_clear wsX9_clear 0 0 (Gp D (Ec kA ly) ly n A kA) A [.ref (ly 7)] (wp_X9_clear) := by
  intro S Q
  refine Met.ofW (cc := cX9_clear) (maxL := 1) (ret := none) (by decide) rfl ?_
  intro p e s m args below meth c s₁ B hml hv
  obtain ⟨rfl, ⟨hP, hD, hK, hN⟩, hw⟩ := hv
  have hx := B.exec
  have hb := B.bytes
  have hr := B.returns
  have hts := atoms_spec (ws := wsX9_clear) B.pre
  have hown : s.vm.findClass RX9 = some m.cls := findClass_of_methodNamed B.named
  have hlocks := B.notSynchronized
  have hH : Hp D (Ec kA ly) ly n A s.heap S s.heap [] := ⟨hP, hD, va_S.rf⟩
  have hiX9 : ∀ w ∈ u_ws RX9 TX9 3, w ∈ wsX9_clear := by decide +kernel
  have lk0 := hts (.fieldLink RX9 15 "SlowPanes$Trace" "count" "I") (by decide +kernel)
  have lk1 := hts (.fieldLink RX9 19 "SlowPanes$Trace" "isParted" "Z") (by decide +kernel)
  have hl := lv_entry ([.ref (ly 7)]) (n := 1) (Nat.le_of_ble_eq_true rfl)
  rw [lg_entry_eq]
  generalize (lg_sl ([.ref (ly 7)]) ++ List.replicate (1 - (lg_sl ([.ref (ly 7)])).length) Slot.unset).toArray = ls at hl ⊢
  have hl : lv_has ls 1 [(0, .ref (ly 7))] := hl
  rw [wp_X9_clear] at hw
  refine lv_aload_n hx hb dX9_clear_0 rfl (lv_at hl 0 rfl) ?_
  refine lv_iconst (v := 0) hx hb dX9_clear_1 (by decide +kernel) ?_
  refine pf_tr_1 hx hb hts hiX9 hown hK hn hH lk0 dX9_clear_2 (fun S1 H locs eS1 hH => ?_)
  replace hw := hw S1 eS1
  refine lv_aload_n hx hb dX9_clear_5 rfl (lv_at hl 0 rfl) ?_
  refine lv_iconst (v := 0) hx hb dX9_clear_6 (by decide +kernel) ?_
  refine pf_tr_2 hx hb hts hiX9 hown hK hn hH lk1 isB_0 dX9_clear_7 (fun S2 H locs eS2 hH => ?_)
  replace hw := hw S2 eS2
  exact k_vret hx hb hr hlocks hK hN hH hw dX9_clear_10
def wl_X10_clear_12 (o : Nat) (K_12 : Int32 → St → Prop) : Nat → Int32 → St → Prop
  | 0, _, _ => False
  | fu_12 + 1, v1_12, S_12 => (((200 : Int32) ≤ v1_12 → K_12 v1_12 S_12) ∧ (¬ (200 : Int32) ≤ v1_12 → (vp_in v1_12 200 ∧ ∀ S5 : St, S5 = sA S_12 (o + 1) v1_12.toNatClampNeg (0 : Int32) → (∀ t6 : Int32, t6 = v1_12 + 1 → wl_X10_clear_12 o K_12 fu_12 t6 S5))))
def wl_X10_clear_36 (o : Nat) (K_36 : Int32 → St → Prop) : Nat → Int32 → St → Prop
  | 0, _, _ => False
  | fu_36 + 1, v1_36, S_36 => (((12 : Int32) ≤ v1_36 → K_36 v1_36 S_36) ∧ (¬ (12 : Int32) ≤ v1_36 → (vp_in v1_36 12 ∧ ∀ S11 : St, S11 = sA S_36 (o + 2) v1_36.toNatClampNeg (1 : Int32) → (∀ t12 : Int32, t12 = v1_36 + 1 → wl_X10_clear_36 o K_36 fu_36 t12 S11))))
def wp_X10_clear (o : Nat) (S : St) (Q : St → Prop) : Prop := (isW o ∧ (∀ S1 : St, S1 = sI S o 3 (0 : Int32) → (∀ S2 : St, S2 = sI S1 o 4 (0 : Int32) → (∃ m_12 : Nat, wl_X10_clear_12 o (fun e1_7 S8 => (∃ m_36 : Nat, wl_X10_clear_36 o (fun e1_13 S14 => Q S14) m_36 (0 : Int32) S8)) m_12 (0 : Int32) S2))))
set_option maxHeartbeats 4000000 in
set_option maxRecDepth 100000 in
theorem c_X10_clear (l : Launch) (D : va_G) (kA : Nat → ClassId) (ly : Nat → Nat) (n : List Nat) (hn : ∀ c, c < 59 → c ∈ n) (A : Nat → Prop) (o : Nat) : Cv l yX10_clear wsX10_clear 0 0 (Gp D (Ec kA ly) ly n A kA) A [.ref (ly o)] (wp_X10_clear o) := by
  intro S Q
  refine Met.ofW (cc := cX10_clear) (maxL := 2) (ret := none) (by decide) rfl ?_
  intro p e s m args below meth c s₁ B hml hv
  obtain ⟨rfl, ⟨hP, hD, hK, hN⟩, hw⟩ := hv
  have hx := B.exec
  have hb := B.bytes
  have hr := B.returns
  have hts := atoms_spec (ws := wsX10_clear) B.pre
  have hown : s.vm.findClass RX10 = some m.cls := findClass_of_methodNamed B.named
  have hlocks := B.notSynchronized
  have hH : Hp D (Ec kA ly) ly n A s.heap S s.heap [] := ⟨hP, hD, va_S.rf⟩
  have hiX10 : ∀ w ∈ u_ws RX10 TX10 6, w ∈ wsX10_clear := by decide +kernel
  have lk0 := hts (.fieldLink RX10 24 "SlowPanes$World" "count" "I") (by decide +kernel)
  have lk1 := hts (.fieldLink RX10 28 "SlowPanes$World" "today" "I") (by decide +kernel)
  have lk2 := hts (.fieldLink RX10 9 "SlowPanes$World" "views" "[I") (by decide +kernel)
  have lk3 := hts (.fieldLink RX10 15 "SlowPanes$World" "loves" "[I") (by decide +kernel)
  have hl := lv_entry ([.ref (ly o)]) (n := 2) (Nat.le_of_ble_eq_true rfl)
  rw [lg_entry_eq]
  generalize (lg_sl ([.ref (ly o)]) ++ List.replicate (2 - (lg_sl ([.ref (ly o)])).length) Slot.unset).toArray = ls at hl ⊢
  have hl : lv_has ls 2 [(0, .ref (ly o))] := hl
  rw [wp_X10_clear] at hw
  obtain ⟨ho, hw⟩ := hw
  refine lv_aload_n hx hb dX10_clear_0 rfl (lv_at hl 0 rfl) ?_
  refine lv_iconst (v := 0) hx hb dX10_clear_1 (by decide +kernel) ?_
  refine pf_w_3 hx hb hts hiX10 hown hK hn hH ho lk0 dX10_clear_2 (fun S1 H locs eS1 hH => ?_)
  replace hw := hw S1 eS1
  refine lv_aload_n hx hb dX10_clear_5 rfl (lv_at hl 0 rfl) ?_
  refine lv_iconst (v := 0) hx hb dX10_clear_6 (by decide +kernel) ?_
  refine pf_w_4 hx hb hts hiX10 hown hK hn hH ho lk1 dX10_clear_7 (fun S2 H locs eS2 hH => ?_)
  replace hw := hw S2 eS2
  refine lv_iconst (v := 0) hx hb dX10_clear_10 (by decide +kernel) ?_
  refine lv_istore_n (lv' := [(1, .int (0 : Int32)), (0, .ref (ly o))]) hx hb dX10_clear_11 rfl hl (by decide) rfl (fun ls hl => ?_)
  have L_12 : ∀ (K_12 : Int32 → St → Prop) (hk_12 : ∀ (v1_12 : Int32) (S_12 : St) (H : Heap) (locs : List Loc) (ls : Array Slot), K_12 v1_12 S_12 → Hp D (Ec kA ly) ly n A s.heap S_12 H locs → lv_has ls 2 [(0, .ref (ly o)), (1, .int v1_12)] → W p l e (headSpec wsX10_clear { frames := 0, cells := 0, slots := 0, locals := 0 }).room s m [.ref (ly o)].toArray below meth c H locs 0 0 (MQ below (va_Qv Q (Gp D (Ec kA ly) ly n A kA) A) [.ref (ly o)].toArray s 0 0 A) (F0 m 34 ls [])) (fu_12 : Nat) (v1_12 : Int32) (S_12 : St) (H : Heap) (locs : List Loc) (ls : Array Slot), wl_X10_clear_12 o K_12 fu_12 v1_12 S_12 → Hp D (Ec kA ly) ly n A s.heap S_12 H locs → lv_has ls 2 [(0, .ref (ly o)), (1, .int v1_12)] → W p l e (headSpec wsX10_clear { frames := 0, cells := 0, slots := 0, locals := 0 }).room s m [.ref (ly o)].toArray below meth c H locs 0 0 (MQ below (va_Qv Q (Gp D (Ec kA ly) ly n A kA) A) [.ref (ly o)].toArray s 0 0 A) (F0 m 12 ls []) := by
    intro K_12 hk_12 fu_12
    induction fu_12 with
    | zero => intro v1_12 S_12 H locs ls hw hH hl; rw [wl_X10_clear_12] at hw; exact hw.elim
    | succ fu_12 ih_12 =>
      intro v1_12 S_12 H locs ls hw hH hl
      rw [wl_X10_clear_12] at hw
      refine lv_iload_n hx hb dX10_clear_12 rfl (lv_at hl 1 rfl) ?_
      refine lv_aload_n hx hb dX10_clear_13 rfl (lv_at hl 0 rfl) ?_
      refine gf_w_0 hx hb hts hiX10 hown hK hn hH ho lk2 dX10_clear_14 ?_
      refine k_alen (t0 := 0) (v := 200) hx hb hK hH (w_lt hn ho 1 (by decide)) rfl (Ec_wv ho) rfl dX10_clear_17 ?_
      refine lv_icmp_ge (tgt := 34) hx hb dX10_clear_18 (by decide) (fun hc3 => ?_) (fun hc3 => ?_)
      · replace hw := hw.1 hc3
        exact hk_12 v1_12 S_12 _ _ ls hw hH (lv_sub hl [0, 1] rfl)
      · replace hw := hw.2 hc3
        refine lv_aload_n hx hb dX10_clear_21 rfl (lv_at hl 0 rfl) ?_
        refine gf_w_0 hx hb hts hiX10 hown hK hn hH ho lk2 dX10_clear_22 ?_
        refine lv_iload_n hx hb dX10_clear_25 rfl (lv_at hl 1 rfl) ?_
        refine lv_iconst (v := 0) hx hb dX10_clear_26 (by decide +kernel) ?_
        obtain ⟨hi_4, hw⟩ := hw
        refine k_ist hx hb hK hH (w_lt hn ho 1 (by decide)) (fun _ => (Ec_wv ho)) hi_4 dX10_clear_27 (fun S5 H locs eS5 hH => ?_)
        replace hw := hw S5 eS5
        obtain ⟨t6, et6⟩ : ∃ y : Int32, y = v1_12 + 1 := ⟨_, rfl⟩
        replace hw := hw t6 et6
        refine lv_iinc (v := t6) (lv' := [(1, .int t6), (0, .ref (ly o))]) hx hb dX10_clear_28 hl (k := 1) rfl (by rw [et6]; rfl) (by decide) rfl (fun ls hl => ?_)
        refine lv_goto (tgt := 12) hx hb dX10_clear_31 (by decide) ?_
        exact ih_12 t6 S5 _ _ ls hw hH (lv_sub hl [1, 0] rfl)
  obtain ⟨m_12, hw⟩ := hw
  refine L_12 _ (fun e1_7 S8 H locs ls hw hH hl => ?_) m_12 (0 : Int32) S2 _ _ ls hw hH (lv_sub hl [1, 0] rfl)
  refine lv_iconst (v := 0) hx hb dX10_clear_34 (by decide +kernel) ?_
  refine lv_istore_n (lv' := [(1, .int (0 : Int32)), (0, .ref (ly o))]) hx hb dX10_clear_35 rfl hl (by decide) rfl (fun ls hl => ?_)
  have L_36 : ∀ (K_36 : Int32 → St → Prop) (hk_36 : ∀ (v1_36 : Int32) (S_36 : St) (H : Heap) (locs : List Loc) (ls : Array Slot), K_36 v1_36 S_36 → Hp D (Ec kA ly) ly n A s.heap S_36 H locs → lv_has ls 2 [(0, .ref (ly o)), (1, .int v1_36)] → W p l e (headSpec wsX10_clear { frames := 0, cells := 0, slots := 0, locals := 0 }).room s m [.ref (ly o)].toArray below meth c H locs 0 0 (MQ below (va_Qv Q (Gp D (Ec kA ly) ly n A kA) A) [.ref (ly o)].toArray s 0 0 A) (F0 m 58 ls [])) (fu_36 : Nat) (v1_36 : Int32) (S_36 : St) (H : Heap) (locs : List Loc) (ls : Array Slot), wl_X10_clear_36 o K_36 fu_36 v1_36 S_36 → Hp D (Ec kA ly) ly n A s.heap S_36 H locs → lv_has ls 2 [(0, .ref (ly o)), (1, .int v1_36)] → W p l e (headSpec wsX10_clear { frames := 0, cells := 0, slots := 0, locals := 0 }).room s m [.ref (ly o)].toArray below meth c H locs 0 0 (MQ below (va_Qv Q (Gp D (Ec kA ly) ly n A kA) A) [.ref (ly o)].toArray s 0 0 A) (F0 m 36 ls []) := by
    intro K_36 hk_36 fu_36
    induction fu_36 with
    | zero => intro v1_36 S_36 H locs ls hw hH hl; rw [wl_X10_clear_36] at hw; exact hw.elim
    | succ fu_36 ih_36 =>
      intro v1_36 S_36 H locs ls hw hH hl
      rw [wl_X10_clear_36] at hw
      refine lv_iload_n hx hb dX10_clear_36 rfl (lv_at hl 1 rfl) ?_
      refine lv_aload_n hx hb dX10_clear_37 rfl (lv_at hl 0 rfl) ?_
      refine gf_w_1 hx hb hts hiX10 hown hK hn hH ho lk3 dX10_clear_38 ?_
      refine k_alen (t0 := 0) (v := 12) hx hb hK hH (w_lt hn ho 2 (by decide)) rfl (Ec_wl ho) rfl dX10_clear_41 ?_
      refine lv_icmp_ge (tgt := 58) hx hb dX10_clear_42 (by decide) (fun hc9 => ?_) (fun hc9 => ?_)
      · replace hw := hw.1 hc9
        exact hk_36 v1_36 S_36 _ _ ls hw hH (lv_sub hl [0, 1] rfl)
      · replace hw := hw.2 hc9
        refine lv_aload_n hx hb dX10_clear_45 rfl (lv_at hl 0 rfl) ?_
        refine gf_w_1 hx hb hts hiX10 hown hK hn hH ho lk3 dX10_clear_46 ?_
        refine lv_iload_n hx hb dX10_clear_49 rfl (lv_at hl 1 rfl) ?_
        refine lv_iconst (v := 1) hx hb dX10_clear_50 (by decide +kernel) ?_
        obtain ⟨hi_10, hw⟩ := hw
        refine k_ist hx hb hK hH (w_lt hn ho 2 (by decide)) (fun _ => (Ec_wl ho)) hi_10 dX10_clear_51 (fun S11 H locs eS11 hH => ?_)
        replace hw := hw S11 eS11
        obtain ⟨t12, et12⟩ : ∃ y : Int32, y = v1_36 + 1 := ⟨_, rfl⟩
        replace hw := hw t12 et12
        refine lv_iinc (v := t12) (lv' := [(1, .int t12), (0, .ref (ly o))]) hx hb dX10_clear_52 hl (k := 1) rfl (by rw [et12]; rfl) (by decide) rfl (fun ls hl => ?_)
        refine lv_goto (tgt := 36) hx hb dX10_clear_55 (by decide) ?_
        exact ih_36 t12 S11 _ _ ls hw hH (lv_sub hl [1, 0] rfl)
  obtain ⟨m_36, hw⟩ := hw
  refine L_36 _ (fun e1_13 S14 H locs ls hw hH hl => ?_) m_36 (0 : Int32) S8 _ _ ls hw hH (lv_sub hl [1, 0] rfl)
  exact k_vret hx hb hr hlocks hK hN hH hw dX10_clear_58
def wl_X10_copyFrom_38 (o : Nat) (a1 : Nat) (K_38 : Int32 → St → Prop) : Nat → Int32 → St → Prop
  | 0, _, _ => False
  | fu_38 + 1, v2_38, S_38 => (((gI S_38 a1 3) ≤ v2_38 → K_38 v2_38 S_38) ∧ (¬ (gI S_38 a1 3) ≤ v2_38 → (vp_in v2_38 6 ∧ ∀ o5 : Nat, o5 = gN S_38 (o + 3) v2_38.toNatClampNeg → isPn o5 ∧ (vp_in v2_38 6 ∧ ∀ o7 : Nat, o7 = gN S_38 (a1 + 3) v2_38.toNatClampNeg → isPn o7 ∧ wp_X3_copyFrom o5 o7 S_38 (fun S8 => (∀ t9 : Int32, t9 = v2_38 + 1 → wl_X10_copyFrom_38 o a1 K_38 fu_38 t9 S8))))))
def wp_X10_copyFrom (o : Nat) (a1 : Nat) (S : St) (Q : St → Prop) : Prop := (isW o ∧ (isW a1 ∧ (∀ S1 : St, S1 = sR S (o + 1) (va_cpy (gA S (a1 + 1)) (gA S (o + 1)) 0 0 200) → (∀ S2 : St, S2 = sR S1 (o + 2) (va_cpy (gA S1 (a1 + 2)) (gA S1 (o + 2)) 0 0 12) → (∃ m_38 : Nat, wl_X10_copyFrom_38 o a1 (fun e2_10 S11 => (∀ S12 : St, S12 = sI S11 o 3 (gI S11 a1 3) → (∀ S13 : St, S13 = sI S12 o 4 (gI S12 a1 4) → (∀ S14 : St, S14 = sI S13 o 5 (gI S13 a1 5) → Q S14)))) m_38 (0 : Int32) S2)))))
set_option maxHeartbeats 4000000 in
set_option maxRecDepth 100000 in
theorem c_X10_copyFrom (l : Launch) (D : va_G) (kA : Nat → ClassId) (ly : Nat → Nat) (n : List Nat) (hn : ∀ c, c < 59 → c ∈ n) (A : Nat → Prop) (o : Nat) (a1 : Nat) : Cv l yX10_copyFrom wsX10_copyFrom 2 81 (Gp D (Ec kA ly) ly n A kA) A [.ref (ly o), .ref (ly a1)] (wp_X10_copyFrom o a1) := by
  intro S Q
  refine Met.ofW (cc := cX10_copyFrom) (maxL := 3) (ret := none) (by decide) rfl ?_
  intro p e s m args below meth c s₁ B hml hv
  obtain ⟨rfl, ⟨hP, hD, hK, hN⟩, hw⟩ := hv
  have hx := B.exec
  have hb := B.bytes
  have hr := B.returns
  have hts := atoms_spec (ws := wsX10_copyFrom) B.pre
  have hown : s.vm.findClass RX10 = some m.cls := findClass_of_methodNamed B.named
  have hlocks := B.notSynchronized
  have hH : Hp D (Ec kA ly) ly n A s.heap S s.heap [] := ⟨hP, hD, va_S.rf⟩
  have hiX10 : ∀ w ∈ u_ws RX10 TX10 6, w ∈ wsX10_copyFrom := by decide +kernel
  have lk0 := hts (.fieldLink RX10 9 "SlowPanes$World" "views" "[I") (by decide +kernel)
  have lk1 := hts (.methodLink RX10 35 arraycopyName) (by decide +kernel)
  have lk2 := hts (.native arraycopyName) (by decide +kernel)
  have lk3 := hts (.static arraycopyName) (by decide +kernel)
  have lk4 := hts (.initialized "java/lang/System") (by decide +kernel)
  have lk5 := hts (.fieldLink RX10 15 "SlowPanes$World" "loves" "[I") (by decide +kernel)
  have lk6 := hts (.fieldLink RX10 24 "SlowPanes$World" "count" "I") (by decide +kernel)
  have lk7 := hts (.fieldLink RX10 20 "SlowPanes$World" "panes" "[LSlowPanes$Pane;") (by decide +kernel)
  have lk8 := hts (.fieldLink RX10 28 "SlowPanes$World" "today" "I") (by decide +kernel)
  have lk9 := hts (.fieldLink RX10 31 "SlowPanes$World" "z" "I") (by decide +kernel)
  have hl := lv_entry ([.ref (ly o), .ref (ly a1)]) (n := 3) (Nat.le_of_ble_eq_true rfl)
  rw [lg_entry_eq]
  generalize (lg_sl ([.ref (ly o), .ref (ly a1)]) ++ List.replicate (3 - (lg_sl ([.ref (ly o), .ref (ly a1)])).length) Slot.unset).toArray = ls at hl ⊢
  have hl : lv_has ls 3 [(0, .ref (ly o)), (1, .ref (ly a1))] := hl
  rw [wp_X10_copyFrom] at hw
  obtain ⟨ho, hw⟩ := hw
  obtain ⟨ha1, hw⟩ := hw
  refine lv_aload_n hx hb dX10_copyFrom_0 rfl (lv_at hl 1 rfl) ?_
  refine gf_w_0 hx hb hts hiX10 hown hK hn hH ha1 lk0 dX10_copyFrom_1 ?_
  refine lv_iconst (v := 0) hx hb dX10_copyFrom_4 (by decide +kernel) ?_
  refine lv_aload_n hx hb dX10_copyFrom_5 rfl (lv_at hl 0 rfl) ?_
  refine gf_w_0 hx hb hts hiX10 hown hK hn hH ho lk0 dX10_copyFrom_6 ?_
  refine lv_iconst (v := 0) hx hb dX10_copyFrom_9 (by decide +kernel) ?_
  refine lv_aload_n hx hb dX10_copyFrom_10 rfl (lv_at hl 0 rfl) ?_
  refine gf_w_0 hx hb hts hiX10 hown hK hn hH ho lk0 dX10_copyFrom_11 ?_
  refine k_alen (t0 := 0) (v := 200) hx hb hK hH (w_lt hn ho 1 (by decide)) rfl (Ec_wv ho) rfl dX10_copyFrom_14 ?_
  refine k_copy (sp' := 0) (dp' := 0) (k' := 200) hx hb (hml.trans hl.1.symm) hown lk1 lk2 lk3 lk4 hK hH (w_lt hn ha1 1 (by decide)) (w_lt hn ho 1 (by decide)) (Ec_wv ha1) (fun _ => (Ec_wv ho)) (by decide) (by decide) (by decide) (by decide) (by decide) (by decide) ⟨by decide, by decide⟩ (Nat.le_of_ble_eq_true rfl) (Nat.le_of_ble_eq_true rfl) dX10_copyFrom_15 (fun S1 H locs eS1 hH => ?_)
  replace hw := hw S1 eS1
  refine lv_aload_n hx hb dX10_copyFrom_18 rfl (lv_at hl 1 rfl) ?_
  refine gf_w_1 hx hb hts hiX10 hown hK hn hH ha1 lk5 dX10_copyFrom_19 ?_
  refine lv_iconst (v := 0) hx hb dX10_copyFrom_22 (by decide +kernel) ?_
  refine lv_aload_n hx hb dX10_copyFrom_23 rfl (lv_at hl 0 rfl) ?_
  refine gf_w_1 hx hb hts hiX10 hown hK hn hH ho lk5 dX10_copyFrom_24 ?_
  refine lv_iconst (v := 0) hx hb dX10_copyFrom_27 (by decide +kernel) ?_
  refine lv_aload_n hx hb dX10_copyFrom_28 rfl (lv_at hl 0 rfl) ?_
  refine gf_w_1 hx hb hts hiX10 hown hK hn hH ho lk5 dX10_copyFrom_29 ?_
  refine k_alen (t0 := 0) (v := 12) hx hb hK hH (w_lt hn ho 2 (by decide)) rfl (Ec_wl ho) rfl dX10_copyFrom_32 ?_
  refine k_copy (sp' := 0) (dp' := 0) (k' := 12) hx hb (hml.trans hl.1.symm) hown lk1 lk2 lk3 lk4 hK hH (w_lt hn ha1 2 (by decide)) (w_lt hn ho 2 (by decide)) (Ec_wl ha1) (fun _ => (Ec_wl ho)) (by decide) (by decide) (by decide) (by decide) (by decide) (by decide) ⟨by decide, by decide⟩ (Nat.le_of_ble_eq_true rfl) (Nat.le_of_ble_eq_true rfl) dX10_copyFrom_33 (fun S2 H locs eS2 hH => ?_)
  replace hw := hw S2 eS2
  refine lv_iconst (v := 0) hx hb dX10_copyFrom_36 (by decide +kernel) ?_
  refine lv_istore_n (lv' := [(2, .int (0 : Int32)), (0, .ref (ly o)), (1, .ref (ly a1))]) hx hb dX10_copyFrom_37 rfl hl (by decide) rfl (fun ls hl => ?_)
  have L_38 : ∀ (K_38 : Int32 → St → Prop) (hk_38 : ∀ (v2_38 : Int32) (S_38 : St) (H : Heap) (locs : List Loc) (ls : Array Slot), K_38 v2_38 S_38 → Hp D (Ec kA ly) ly n A s.heap S_38 H locs → lv_has ls 3 [(0, .ref (ly o)), (1, .ref (ly a1)), (2, .int v2_38)] → W p l e (headSpec wsX10_copyFrom { frames := 2, cells := 0, slots := 0, locals := 81 }).room s m [.ref (ly o), .ref (ly a1)].toArray below meth c H locs 0 0 (MQ below (va_Qv Q (Gp D (Ec kA ly) ly n A kA) A) [.ref (ly o), .ref (ly a1)].toArray s 0 0 A) (F0 m 67 ls [])) (fu_38 : Nat) (v2_38 : Int32) (S_38 : St) (H : Heap) (locs : List Loc) (ls : Array Slot), wl_X10_copyFrom_38 o a1 K_38 fu_38 v2_38 S_38 → Hp D (Ec kA ly) ly n A s.heap S_38 H locs → lv_has ls 3 [(0, .ref (ly o)), (1, .ref (ly a1)), (2, .int v2_38)] → W p l e (headSpec wsX10_copyFrom { frames := 2, cells := 0, slots := 0, locals := 81 }).room s m [.ref (ly o), .ref (ly a1)].toArray below meth c H locs 0 0 (MQ below (va_Qv Q (Gp D (Ec kA ly) ly n A kA) A) [.ref (ly o), .ref (ly a1)].toArray s 0 0 A) (F0 m 38 ls []) := by
    intro K_38 hk_38 fu_38
    induction fu_38 with
    | zero => intro v2_38 S_38 H locs ls hw hH hl; rw [wl_X10_copyFrom_38] at hw; exact hw.elim
    | succ fu_38 ih_38 =>
      intro v2_38 S_38 H locs ls hw hH hl
      rw [wl_X10_copyFrom_38] at hw
      refine lv_iload_n hx hb dX10_copyFrom_38 rfl (lv_at hl 2 rfl) ?_
      refine lv_aload_n hx hb dX10_copyFrom_39 rfl (lv_at hl 1 rfl) ?_
      refine gf_w_3 hx hb hts hiX10 hown hK hn hH ha1 lk6 dX10_copyFrom_40 ?_
      refine lv_icmp_ge (tgt := 67) hx hb dX10_copyFrom_43 (by decide) (fun hc3 => ?_) (fun hc3 => ?_)
      · replace hw := hw.1 hc3
        exact hk_38 v2_38 S_38 _ _ ls hw hH (lv_sub hl [0, 1, 2] rfl)
      · replace hw := hw.2 hc3
        refine lv_aload_n hx hb dX10_copyFrom_46 rfl (lv_at hl 0 rfl) ?_
        refine gf_w_2 hx hb hts hiX10 hown hK hn hH ho lk7 dX10_copyFrom_47 ?_
        refine lv_iload_n hx hb dX10_copyFrom_50 rfl (lv_at hl 2 rfl) ?_
        obtain ⟨hi_4, hw⟩ := hw
        obtain ⟨o5, eo5⟩ : ∃ y : Nat, y = gN S_38 (o + 3) v2_38.toNatClampNeg := ⟨_, rfl⟩
        obtain ⟨ho5, hw⟩ := hw o5 eo5
        refine k_ald (t0 := 1) (v := .ref (ly o5)) hx hb hK hH (w_lt hn ho 3 (by decide)) rfl (Ec_wp ho) hi_4 (by rw [eo5]; rfl) dX10_copyFrom_51 ?_
        refine lv_aload_n hx hb dX10_copyFrom_52 rfl (lv_at hl 1 rfl) ?_
        refine gf_w_2 hx hb hts hiX10 hown hK hn hH ha1 lk7 dX10_copyFrom_53 ?_
        refine lv_iload_n hx hb dX10_copyFrom_56 rfl (lv_at hl 2 rfl) ?_
        obtain ⟨hi_6, hw⟩ := hw
        obtain ⟨o7, eo7⟩ : ∃ y : Nat, y = gN S_38 (a1 + 3) v2_38.toNatClampNeg := ⟨_, rfl⟩
        obtain ⟨ho7, hw⟩ := hw o7 eo7
        refine k_ald (t0 := 1) (v := .ref (ly o7)) hx hb hK hH (w_lt hn ha1 3 (by decide)) rfl (Ec_wp ha1) hi_6 (by rw [eo7]; rfl) dX10_copyFrom_57 ?_
        refine k_aftv (va_runV (As := [.ref (ly o7)]) (rest := []) ⟨hx, hb, hml, hown, hts⟩ (c_X3_copyFrom l D kA ly n hn A o5 o7 S_38 _) (cwV 1 hts gX10_copyFrom_X3_copyFrom rfl rfl rfl (by decide +kernel) ⟨(Nat.le_of_ble_eq_true rfl), (Nat.le_of_ble_eq_true rfl)⟩) ⟨k_blind, (k_recv hK hH (pn_lt hn ho5) (Ec_pn ho5) rfl), k_pre hK hN hH hw⟩ rfl rfl hl.1 rfl (lv_room (Nat.le_of_ble_eq_true rfl)) dX10_copyFrom_58 ⟨Nat.le_refl _, Nat.le_refl _⟩) hH (fun S8 H locs hw hH => ?_)
        obtain ⟨t9, et9⟩ : ∃ y : Int32, y = v2_38 + 1 := ⟨_, rfl⟩
        replace hw := hw t9 et9
        refine lv_iinc (v := t9) (lv' := [(2, .int t9), (0, .ref (ly o)), (1, .ref (ly a1))]) hx hb dX10_copyFrom_61 hl (k := 2) rfl (by rw [et9]; rfl) (by decide) rfl (fun ls hl => ?_)
        refine lv_goto (tgt := 38) hx hb dX10_copyFrom_64 (by decide) ?_
        exact ih_38 t9 S8 _ _ ls hw hH (lv_sub hl [1, 2, 0] rfl)
  obtain ⟨m_38, hw⟩ := hw
  refine L_38 _ (fun e2_10 S11 H locs ls hw hH hl => ?_) m_38 (0 : Int32) S2 _ _ ls hw hH (lv_sub hl [1, 2, 0] rfl)
  refine lv_aload_n hx hb dX10_copyFrom_67 rfl (lv_at hl 0 rfl) ?_
  refine lv_aload_n hx hb dX10_copyFrom_68 rfl (lv_at hl 1 rfl) ?_
  refine gf_w_3 hx hb hts hiX10 hown hK hn hH ha1 lk6 dX10_copyFrom_69 ?_
  refine pf_w_3 hx hb hts hiX10 hown hK hn hH ho lk6 dX10_copyFrom_72 (fun S12 H locs eS12 hH => ?_)
  replace hw := hw S12 eS12
  refine lv_aload_n hx hb dX10_copyFrom_75 rfl (lv_at hl 0 rfl) ?_
  refine lv_aload_n hx hb dX10_copyFrom_76 rfl (lv_at hl 1 rfl) ?_
  refine gf_w_4 hx hb hts hiX10 hown hK hn hH ha1 lk8 dX10_copyFrom_77 ?_
  refine pf_w_4 hx hb hts hiX10 hown hK hn hH ho lk8 dX10_copyFrom_80 (fun S13 H locs eS13 hH => ?_)
  replace hw := hw S13 eS13
  refine lv_aload_n hx hb dX10_copyFrom_83 rfl (lv_at hl 0 rfl) ?_
  refine lv_aload_n hx hb dX10_copyFrom_84 rfl (lv_at hl 1 rfl) ?_
  refine gf_w_5 hx hb hts hiX10 hown hK hn hH ha1 lk9 dX10_copyFrom_85 ?_
  refine pf_w_5 hx hb hts hiX10 hown hK hn hH ho lk9 dX10_copyFrom_88 (fun S14 H locs eS14 hH => ?_)
  replace hw := hw S14 eS14
  exact k_vret hx hb hr hlocks hK hN hH hw dX10_copyFrom_91
def wl_X10_removePane_19 (o : Nat) (K_19 : Int32 → St → Prop) : Nat → Int32 → St → Prop
  | 0, _, _ => False
  | fu_19 + 1, v3_19, S_19 => (((gI S_19 o 3) ≤ v3_19 → K_19 v3_19 S_19) ∧ (¬ (gI S_19 o 3) ≤ v3_19 → (vp_in (v3_19 + (1 : Int32)) 6 ∧ ∀ o6 : Nat, o6 = gN S_19 (o + 3) (v3_19 + (1 : Int32)).toNatClampNeg → isPn o6 ∧ ((vp_in v3_19 6 ∧ ∀ S8 : St, S8 = sN S_19 (o + 3) v3_19.toNatClampNeg o6 → (∀ t9 : Int32, t9 = v3_19 + 1 → wl_X10_removePane_19 o K_19 fu_19 t9 S8))))))
def wp_X10_removePane (o : Nat) (a1 : Int32) (S : St) (Q : St → Prop) : Prop := (isW o ∧ (vp_in a1 6 ∧ ∀ o2 : Nat, o2 = gN S (o + 3) a1.toNatClampNeg → isPn o2 ∧ (∀ S3 : St, S3 = sI S o 3 ((gI S o 3) - (1 : Int32)) → (∃ m_19 : Nat, wl_X10_removePane_19 o (fun e3_10 S11 => ((vp_in (gI S11 o 3) 6 ∧ ∀ S13 : St, S13 = sN S11 (o + 3) (gI S11 o 3).toNatClampNeg o2 → Q S13))) m_19 a1 S3))))
set_option maxHeartbeats 4000000 in
set_option maxRecDepth 100000 in
theorem c_X10_removePane (l : Launch) (D : va_G) (kA : Nat → ClassId) (ly : Nat → Nat) (n : List Nat) (hn : ∀ c, c < 59 → c ∈ n) (A : Nat → Prop) (o : Nat) (a1 : Int32) : Cv l yX10_removePane wsX10_removePane 0 0 (Gp D (Ec kA ly) ly n A kA) A [.ref (ly o), .int a1] (wp_X10_removePane o a1) := by
  intro S Q
  refine Met.ofW (cc := cX10_removePane) (maxL := 4) (ret := none) (by decide) rfl ?_
  intro p e s m args below meth c s₁ B hml hv
  obtain ⟨rfl, ⟨hP, hD, hK, hN⟩, hw⟩ := hv
  have hx := B.exec
  have hb := B.bytes
  have hr := B.returns
  have hts := atoms_spec (ws := wsX10_removePane) B.pre
  have hown : s.vm.findClass RX10 = some m.cls := findClass_of_methodNamed B.named
  have hlocks := B.notSynchronized
  have hH : Hp D (Ec kA ly) ly n A s.heap S s.heap [] := ⟨hP, hD, va_S.rf⟩
  have hiX10 : ∀ w ∈ u_ws RX10 TX10 6, w ∈ wsX10_removePane := by decide +kernel
  have lk0 := hts (.fieldLink RX10 20 "SlowPanes$World" "panes" "[LSlowPanes$Pane;") (by decide +kernel)
  have lk1 := hts (.fieldLink RX10 24 "SlowPanes$World" "count" "I") (by decide +kernel)
  have hl := lv_entry ([.ref (ly o), .int a1]) (n := 4) (Nat.le_of_ble_eq_true rfl)
  rw [lg_entry_eq]
  generalize (lg_sl ([.ref (ly o), .int a1]) ++ List.replicate (4 - (lg_sl ([.ref (ly o), .int a1])).length) Slot.unset).toArray = ls at hl ⊢
  have hl : lv_has ls 4 [(0, .ref (ly o)), (1, .int a1)] := hl
  rw [wp_X10_removePane] at hw
  obtain ⟨ho, hw⟩ := hw
  refine lv_aload_n hx hb dX10_removePane_0 rfl (lv_at hl 0 rfl) ?_
  refine gf_w_2 hx hb hts hiX10 hown hK hn hH ho lk0 dX10_removePane_1 ?_
  refine lv_iload_n hx hb dX10_removePane_4 rfl (lv_at hl 1 rfl) ?_
  obtain ⟨hi_1, hw⟩ := hw
  obtain ⟨o2, eo2⟩ : ∃ y : Nat, y = gN S (o + 3) a1.toNatClampNeg := ⟨_, rfl⟩
  obtain ⟨ho2, hw⟩ := hw o2 eo2
  refine k_ald (t0 := 1) (v := .ref (ly o2)) hx hb hK hH (w_lt hn ho 3 (by decide)) rfl (Ec_wp ho) hi_1 (by rw [eo2]; rfl) dX10_removePane_5 ?_
  refine lv_astore_n (lv' := [(2, .ref (ly o2)), (0, .ref (ly o)), (1, .int a1)]) hx hb dX10_removePane_6 rfl hl (by decide) rfl (fun ls hl => ?_)
  refine lv_aload_n hx hb dX10_removePane_7 rfl (lv_at hl 1 rfl) ?_
  refine lv_dup hx hb dX10_removePane_8 rfl ?_
  refine gf_w_3 hx hb hts hiX10 hown hK hn hH ho lk1 dX10_removePane_9 ?_
  refine lv_iconst (v := 1) hx hb dX10_removePane_12 (by decide +kernel) ?_
  refine lv_isub hx hb dX10_removePane_13 ?_
  refine pf_w_3 hx hb hts hiX10 hown hK hn hH ho lk1 dX10_removePane_14 (fun S3 H locs eS3 hH => ?_)
  replace hw := hw S3 eS3
  refine lv_iload_n hx hb dX10_removePane_17 rfl (lv_at hl 2 rfl) ?_
  refine lv_istore_n (lv' := [(3, .int a1), (2, .ref (ly o2)), (0, .ref (ly o)), (1, .int a1)]) hx hb dX10_removePane_18 rfl hl (by decide) rfl (fun ls hl => ?_)
  have L_19 : ∀ (K_19 : Int32 → St → Prop) (hk_19 : ∀ (v3_19 : Int32) (S_19 : St) (H : Heap) (locs : List Loc) (ls : Array Slot), K_19 v3_19 S_19 → Hp D (Ec kA ly) ly n A s.heap S_19 H locs → lv_has ls 4 [(0, .ref (ly o)), (1, .int a1), (2, .ref (ly o2)), (3, .int v3_19)] → W p l e (headSpec wsX10_removePane { frames := 0, cells := 0, slots := 0, locals := 0 }).room s m [.ref (ly o), .int a1].toArray below meth c H locs 0 0 (MQ below (va_Qv Q (Gp D (Ec kA ly) ly n A kA) A) [.ref (ly o), .int a1].toArray s 0 0 A) (F0 m 47 ls [])) (fu_19 : Nat) (v3_19 : Int32) (S_19 : St) (H : Heap) (locs : List Loc) (ls : Array Slot), wl_X10_removePane_19 o K_19 fu_19 v3_19 S_19 → Hp D (Ec kA ly) ly n A s.heap S_19 H locs → lv_has ls 4 [(0, .ref (ly o)), (1, .int a1), (2, .ref (ly o2)), (3, .int v3_19)] → W p l e (headSpec wsX10_removePane { frames := 0, cells := 0, slots := 0, locals := 0 }).room s m [.ref (ly o), .int a1].toArray below meth c H locs 0 0 (MQ below (va_Qv Q (Gp D (Ec kA ly) ly n A kA) A) [.ref (ly o), .int a1].toArray s 0 0 A) (F0 m 19 ls []) := by
    intro K_19 hk_19 fu_19
    induction fu_19 with
    | zero => intro v3_19 S_19 H locs ls hw hH hl; rw [wl_X10_removePane_19] at hw; exact hw.elim
    | succ fu_19 ih_19 =>
      intro v3_19 S_19 H locs ls hw hH hl
      rw [wl_X10_removePane_19] at hw
      refine lv_iload_n hx hb dX10_removePane_19 rfl (lv_at hl 3 rfl) ?_
      refine lv_aload_n hx hb dX10_removePane_20 rfl (lv_at hl 0 rfl) ?_
      refine gf_w_3 hx hb hts hiX10 hown hK hn hH ho lk1 dX10_removePane_21 ?_
      refine lv_icmp_ge (tgt := 47) hx hb dX10_removePane_24 (by decide) (fun hc4 => ?_) (fun hc4 => ?_)
      · replace hw := hw.1 hc4
        exact hk_19 v3_19 S_19 _ _ ls hw hH (lv_sub hl [0, 1, 2, 3] rfl)
      · replace hw := hw.2 hc4
        refine lv_aload_n hx hb dX10_removePane_27 rfl (lv_at hl 0 rfl) ?_
        refine gf_w_2 hx hb hts hiX10 hown hK hn hH ho lk0 dX10_removePane_28 ?_
        refine lv_iload_n hx hb dX10_removePane_31 rfl (lv_at hl 3 rfl) ?_
        refine lv_aload_n hx hb dX10_removePane_32 rfl (lv_at hl 0 rfl) ?_
        refine gf_w_2 hx hb hts hiX10 hown hK hn hH ho lk0 dX10_removePane_33 ?_
        refine lv_iload_n hx hb dX10_removePane_36 rfl (lv_at hl 3 rfl) ?_
        refine lv_iconst (v := 1) hx hb dX10_removePane_37 (by decide +kernel) ?_
        refine lv_iadd hx hb dX10_removePane_38 ?_
        obtain ⟨hi_5, hw⟩ := hw
        obtain ⟨o6, eo6⟩ : ∃ y : Nat, y = gN S_19 (o + 3) (v3_19 + (1 : Int32)).toNatClampNeg := ⟨_, rfl⟩
        obtain ⟨ho6, hw⟩ := hw o6 eo6
        refine k_ald (t0 := 1) (v := .ref (ly o6)) hx hb hK hH (w_lt hn ho 3 (by decide)) rfl (Ec_wp ho) hi_5 (by rw [eo6]; rfl) dX10_removePane_39 ?_
        obtain ⟨hi_7, hw⟩ := hw
        refine k_astP hx hb hK hH (w_lt hn ho 3 (by decide)) (Ec_wp ho) (pn_lt hn ho6) (Ec_pn ho6) hi_7 dX10_removePane_40 (fun S8 H locs eS8 hH => ?_)
        replace hw := hw S8 eS8
        obtain ⟨t9, et9⟩ : ∃ y : Int32, y = v3_19 + 1 := ⟨_, rfl⟩
        replace hw := hw t9 et9
        refine lv_iinc (v := t9) (lv' := [(3, .int t9), (0, .ref (ly o)), (1, .int a1), (2, .ref (ly o2))]) hx hb dX10_removePane_41 hl (k := 3) rfl (by rw [et9]; rfl) (by decide) rfl (fun ls hl => ?_)
        refine lv_goto (tgt := 19) hx hb dX10_removePane_44 (by decide) ?_
        exact ih_19 t9 S8 _ _ ls hw hH (lv_sub hl [1, 2, 3, 0] rfl)
  obtain ⟨m_19, hw⟩ := hw
  refine L_19 _ (fun e3_10 S11 H locs ls hw hH hl => ?_) m_19 a1 S3 _ _ ls hw hH (lv_sub hl [2, 3, 1, 0] rfl)
  refine lv_aload_n hx hb dX10_removePane_47 rfl (lv_at hl 0 rfl) ?_
  refine gf_w_2 hx hb hts hiX10 hown hK hn hH ho lk0 dX10_removePane_48 ?_
  refine lv_aload_n hx hb dX10_removePane_51 rfl (lv_at hl 0 rfl) ?_
  refine gf_w_3 hx hb hts hiX10 hown hK hn hH ho lk1 dX10_removePane_52 ?_
  refine lv_aload_n hx hb dX10_removePane_55 rfl (lv_at hl 2 rfl) ?_
  obtain ⟨hi_12, hw⟩ := hw
  refine k_astP hx hb hK hH (w_lt hn ho 3 (by decide)) (Ec_wp ho) (pn_lt hn ho2) (Ec_pn ho2) hi_12 dX10_removePane_56 (fun S13 H locs eS13 hH => ?_)
  replace hw := hw S13 eS13
  exact k_vret hx hb hr hlocks hK hN hH hw dX10_removePane_57
def wl_X10_passDay_2 (o : Nat) (K_2 : Int32 → St → Prop) : Nat → Int32 → St → Prop
  | 0, _, _ => False
  | fu_2 + 1, v1_2, S_2 => (((gI S_2 o 3) ≤ v1_2 → K_2 v1_2 S_2) ∧ (¬ (gI S_2 o 3) ≤ v1_2 → (vp_in v1_2 6 ∧ ∀ o3 : Nat, o3 = gN S_2 (o + 3) v1_2.toNatClampNeg → isPn o3 ∧ wp_X3_passDay o3 (gI S_2 o 4) S_2 (fun S4 => (∀ t5 : Int32, t5 = v1_2 + 1 → wl_X10_passDay_2 o K_2 fu_2 t5 S4)))))
def wp_X10_passDay (o : Nat) (S : St) (Q : St → Prop) : Prop := (isW o ∧ (∃ m_2 : Nat, wl_X10_passDay_2 o (fun e1_6 S7 => (∀ S8 : St, S8 = sI S7 o 4 ((gI S7 o 4) + (1 : Int32)) → Q S8)) m_2 (0 : Int32) S))
set_option maxHeartbeats 4000000 in
set_option maxRecDepth 100000 in
theorem c_X10_passDay (l : Launch) (D : va_G) (kA : Nat → ClassId) (ly : Nat → Nat) (n : List Nat) (hn : ∀ c, c < 59 → c ∈ n) (A : Nat → Prop) (o : Nat) : Cv l yX10_passDay wsX10_passDay 2 43 (Gp D (Ec kA ly) ly n A kA) A [.ref (ly o)] (wp_X10_passDay o) := by
  intro S Q
  refine Met.ofW (cc := cX10_passDay) (maxL := 2) (ret := none) (by decide) rfl ?_
  intro p e s m args below meth c s₁ B hml hv
  obtain ⟨rfl, ⟨hP, hD, hK, hN⟩, hw⟩ := hv
  have hx := B.exec
  have hb := B.bytes
  have hr := B.returns
  have hts := atoms_spec (ws := wsX10_passDay) B.pre
  have hown : s.vm.findClass RX10 = some m.cls := findClass_of_methodNamed B.named
  have hlocks := B.notSynchronized
  have hH : Hp D (Ec kA ly) ly n A s.heap S s.heap [] := ⟨hP, hD, va_S.rf⟩
  have hiX10 : ∀ w ∈ u_ws RX10 TX10 6, w ∈ wsX10_passDay := by decide +kernel
  have lk0 := hts (.fieldLink RX10 24 "SlowPanes$World" "count" "I") (by decide +kernel)
  have lk1 := hts (.fieldLink RX10 20 "SlowPanes$World" "panes" "[LSlowPanes$Pane;") (by decide +kernel)
  have lk2 := hts (.fieldLink RX10 28 "SlowPanes$World" "today" "I") (by decide +kernel)
  have hl := lv_entry ([.ref (ly o)]) (n := 2) (Nat.le_of_ble_eq_true rfl)
  rw [lg_entry_eq]
  generalize (lg_sl ([.ref (ly o)]) ++ List.replicate (2 - (lg_sl ([.ref (ly o)])).length) Slot.unset).toArray = ls at hl ⊢
  have hl : lv_has ls 2 [(0, .ref (ly o))] := hl
  rw [wp_X10_passDay] at hw
  obtain ⟨ho, hw⟩ := hw
  refine lv_iconst (v := 0) hx hb dX10_passDay_0 (by decide +kernel) ?_
  refine lv_istore_n (lv' := [(1, .int (0 : Int32)), (0, .ref (ly o))]) hx hb dX10_passDay_1 rfl hl (by decide) rfl (fun ls hl => ?_)
  have L_2 : ∀ (K_2 : Int32 → St → Prop) (hk_2 : ∀ (v1_2 : Int32) (S_2 : St) (H : Heap) (locs : List Loc) (ls : Array Slot), K_2 v1_2 S_2 → Hp D (Ec kA ly) ly n A s.heap S_2 H locs → lv_has ls 2 [(0, .ref (ly o)), (1, .int v1_2)] → W p l e (headSpec wsX10_passDay { frames := 2, cells := 0, slots := 0, locals := 43 }).room s m [.ref (ly o)].toArray below meth c H locs 0 0 (MQ below (va_Qv Q (Gp D (Ec kA ly) ly n A kA) A) [.ref (ly o)].toArray s 0 0 A) (F0 m 29 ls [])) (fu_2 : Nat) (v1_2 : Int32) (S_2 : St) (H : Heap) (locs : List Loc) (ls : Array Slot), wl_X10_passDay_2 o K_2 fu_2 v1_2 S_2 → Hp D (Ec kA ly) ly n A s.heap S_2 H locs → lv_has ls 2 [(0, .ref (ly o)), (1, .int v1_2)] → W p l e (headSpec wsX10_passDay { frames := 2, cells := 0, slots := 0, locals := 43 }).room s m [.ref (ly o)].toArray below meth c H locs 0 0 (MQ below (va_Qv Q (Gp D (Ec kA ly) ly n A kA) A) [.ref (ly o)].toArray s 0 0 A) (F0 m 2 ls []) := by
    intro K_2 hk_2 fu_2
    induction fu_2 with
    | zero => intro v1_2 S_2 H locs ls hw hH hl; rw [wl_X10_passDay_2] at hw; exact hw.elim
    | succ fu_2 ih_2 =>
      intro v1_2 S_2 H locs ls hw hH hl
      rw [wl_X10_passDay_2] at hw
      refine lv_iload_n hx hb dX10_passDay_2 rfl (lv_at hl 1 rfl) ?_
      refine lv_aload_n hx hb dX10_passDay_3 rfl (lv_at hl 0 rfl) ?_
      refine gf_w_3 hx hb hts hiX10 hown hK hn hH ho lk0 dX10_passDay_4 ?_
      refine lv_icmp_ge (tgt := 29) hx hb dX10_passDay_7 (by decide) (fun hc1 => ?_) (fun hc1 => ?_)
      · replace hw := hw.1 hc1
        exact hk_2 v1_2 S_2 _ _ ls hw hH (lv_sub hl [0, 1] rfl)
      · replace hw := hw.2 hc1
        refine lv_aload_n hx hb dX10_passDay_10 rfl (lv_at hl 0 rfl) ?_
        refine gf_w_2 hx hb hts hiX10 hown hK hn hH ho lk1 dX10_passDay_11 ?_
        refine lv_iload_n hx hb dX10_passDay_14 rfl (lv_at hl 1 rfl) ?_
        obtain ⟨hi_2, hw⟩ := hw
        obtain ⟨o3, eo3⟩ : ∃ y : Nat, y = gN S_2 (o + 3) v1_2.toNatClampNeg := ⟨_, rfl⟩
        obtain ⟨ho3, hw⟩ := hw o3 eo3
        refine k_ald (t0 := 1) (v := .ref (ly o3)) hx hb hK hH (w_lt hn ho 3 (by decide)) rfl (Ec_wp ho) hi_2 (by rw [eo3]; rfl) dX10_passDay_15 ?_
        refine lv_aload_n hx hb dX10_passDay_16 rfl (lv_at hl 0 rfl) ?_
        refine gf_w_4 hx hb hts hiX10 hown hK hn hH ho lk2 dX10_passDay_17 ?_
        refine k_aftv (va_runV (As := [.int (gI S_2 o 4)]) (rest := []) ⟨hx, hb, hml, hown, hts⟩ (c_X3_passDay l D kA ly n hn A o3 (gI S_2 o 4) S_2 _) (cwV 1 hts gX10_passDay_X3_passDay rfl rfl rfl (by decide +kernel) ⟨(Nat.le_of_ble_eq_true rfl), (Nat.le_of_ble_eq_true rfl)⟩) ⟨k_blind, (k_recv hK hH (pn_lt hn ho3) (Ec_pn ho3) rfl), k_pre hK hN hH hw⟩ rfl rfl hl.1 rfl (lv_room (Nat.le_of_ble_eq_true rfl)) dX10_passDay_20 ⟨Nat.le_refl _, Nat.le_refl _⟩) hH (fun S4 H locs hw hH => ?_)
        obtain ⟨t5, et5⟩ : ∃ y : Int32, y = v1_2 + 1 := ⟨_, rfl⟩
        replace hw := hw t5 et5
        refine lv_iinc (v := t5) (lv' := [(1, .int t5), (0, .ref (ly o))]) hx hb dX10_passDay_23 hl (k := 1) rfl (by rw [et5]; rfl) (by decide) rfl (fun ls hl => ?_)
        refine lv_goto (tgt := 2) hx hb dX10_passDay_26 (by decide) ?_
        exact ih_2 t5 S4 _ _ ls hw hH (lv_sub hl [1, 0] rfl)
  obtain ⟨m_2, hw⟩ := hw
  refine L_2 _ (fun e1_6 S7 H locs ls hw hH hl => ?_) m_2 (0 : Int32) S _ _ ls hw hH (lv_sub hl [1, 0] rfl)
  refine lv_aload_n hx hb dX10_passDay_29 rfl (lv_at hl 0 rfl) ?_
  refine lv_dup hx hb dX10_passDay_30 rfl ?_
  refine gf_w_4 hx hb hts hiX10 hown hK hn hH ho lk2 dX10_passDay_31 ?_
  refine lv_iconst (v := 1) hx hb dX10_passDay_34 (by decide +kernel) ?_
  refine lv_iadd hx hb dX10_passDay_35 ?_
  refine pf_w_4 hx hb hts hiX10 hown hK hn hH ho lk2 dX10_passDay_36 (fun S8 H locs eS8 hH => ?_)
  replace hw := hw S8 eS8
  exact k_vret hx hb hr hlocks hK hN hH hw dX10_passDay_39
def wl_X10_countLit_14 (o : Nat) (v2_4 : Int32) (K_14 : Int32 → Int32 → St → Prop) : Nat → Int32 → Int32 → St → Prop
  | 0, _, _, _ => False
  | fu_14 + 1, v1_14, v3_14, S_14 => (vp_in v2_4 6 ∧ ∀ o3 : Nat, o3 = gN S_14 (o + 3) v2_4.toNatClampNeg → isPn o3 ∧ (((gI S_14 o3 3) ≤ v3_14 → K_14 v1_14 v3_14 S_14) ∧ (¬ (gI S_14 o3 3) ≤ v3_14 → (vp_in v2_4 6 ∧ ∀ o6 : Nat, o6 = gN S_14 (o + 3) v2_4.toNatClampNeg → isPn o6 ∧ wp_X3_glimpseAt o6 v3_14 S_14 (fun r8 S7 => ((r8 = (-9 : Int32) → (∀ t12 : Int32, t12 = (v1_14 + (0 : Int32)) → (∀ t13 : Int32, t13 = v3_14 + 1 → wl_X10_countLit_14 o v2_4 K_14 fu_14 t12 t13 S7))) ∧ (¬ r8 = (-9 : Int32) → (∀ t10 : Int32, t10 = (v1_14 + (1 : Int32)) → (∀ t11 : Int32, t11 = v3_14 + 1 → wl_X10_countLit_14 o v2_4 K_14 fu_14 t10 t11 S7)))))))))
def wl_X10_countLit_4 (o : Nat) (K_4 : Int32 → Int32 → St → Prop) : Nat → Int32 → Int32 → St → Prop
  | 0, _, _, _ => False
  | fu_4 + 1, v1_4, v2_4, S_4 => (((gI S_4 o 3) ≤ v2_4 → K_4 v1_4 v2_4 S_4) ∧ (¬ (gI S_4 o 3) ≤ v2_4 → (∃ m_14 : Nat, wl_X10_countLit_14 o v2_4 (fun e1_14 e3_15 S16 => (∀ t17 : Int32, t17 = v2_4 + 1 → wl_X10_countLit_4 o K_4 fu_4 e1_14 t17 S16)) m_14 v1_4 (0 : Int32) S_4)))
def wp_X10_countLit (o : Nat) (S : St) (Q : Int32 → St → Prop) : Prop := (isW o ∧ (∃ m_4 : Nat, wl_X10_countLit_4 o (fun e1_18 e2_19 S20 => Q e1_18 S20) m_4 (0 : Int32) (0 : Int32) S))
set_option maxHeartbeats 4000000 in
set_option maxRecDepth 100000 in
theorem c_X10_countLit (l : Launch) (D : va_G) (kA : Nat → ClassId) (ly : Nat → Nat) (n : List Nat) (hn : ∀ c, c < 59 → c ∈ n) (A : Nat → Prop) (o : Nat) : Ci l yX10_countLit wsX10_countLit 1 21 (Gp D (Ec kA ly) ly n A kA) A [.ref (ly o)] (wp_X10_countLit o) := by
  intro S Q
  refine Met.ofW (cc := cX10_countLit) (maxL := 4) (ret := (some .int)) (by decide) rfl ?_
  intro p e s m args below meth c s₁ B hml hv
  obtain ⟨rfl, ⟨hP, hD, hK, hN⟩, hw⟩ := hv
  have hx := B.exec
  have hb := B.bytes
  have hr := B.returns
  have hts := atoms_spec (ws := wsX10_countLit) B.pre
  have hown : s.vm.findClass RX10 = some m.cls := findClass_of_methodNamed B.named
  have hlocks := B.notSynchronized
  have hH : Hp D (Ec kA ly) ly n A s.heap S s.heap [] := ⟨hP, hD, va_S.rf⟩
  have hiX10 : ∀ w ∈ u_ws RX10 TX10 6, w ∈ wsX10_countLit := by decide +kernel
  have hiX3 : ∀ w ∈ u_ws RX3 TX3 5, w ∈ wsX10_countLit := by decide +kernel
  have lk0 := hts (.fieldLink RX10 24 "SlowPanes$World" "count" "I") (by decide +kernel)
  have lk1 := hts (.fieldLink RX10 20 "SlowPanes$World" "panes" "[LSlowPanes$Pane;") (by decide +kernel)
  have lk2 := hts (.fieldLink RX10 53 "SlowPanes$Pane" "count" "I") (by decide +kernel)
  have hl := lv_entry ([.ref (ly o)]) (n := 4) (Nat.le_of_ble_eq_true rfl)
  rw [lg_entry_eq]
  generalize (lg_sl ([.ref (ly o)]) ++ List.replicate (4 - (lg_sl ([.ref (ly o)])).length) Slot.unset).toArray = ls at hl ⊢
  have hl : lv_has ls 4 [(0, .ref (ly o))] := hl
  rw [wp_X10_countLit] at hw
  obtain ⟨ho, hw⟩ := hw
  refine lv_iconst (v := 0) hx hb dX10_countLit_0 (by decide +kernel) ?_
  refine lv_istore_n (lv' := [(1, .int (0 : Int32)), (0, .ref (ly o))]) hx hb dX10_countLit_1 rfl hl (by decide) rfl (fun ls hl => ?_)
  refine lv_iconst (v := 0) hx hb dX10_countLit_2 (by decide +kernel) ?_
  refine lv_istore_n (lv' := [(2, .int (0 : Int32)), (1, .int (0 : Int32)), (0, .ref (ly o))]) hx hb dX10_countLit_3 rfl hl (by decide) rfl (fun ls hl => ?_)
  have L_4 : ∀ (K_4 : Int32 → Int32 → St → Prop) (hk_4 : ∀ (v1_4 : Int32) (v2_4 : Int32) (S_4 : St) (H : Heap) (locs : List Loc) (ls : Array Slot), K_4 v1_4 v2_4 S_4 → Hp D (Ec kA ly) ly n A s.heap S_4 H locs → lv_has ls 4 [(0, .ref (ly o)), (1, .int v1_4), (2, .int v2_4)] → W p l e (headSpec wsX10_countLit { frames := 1, cells := 0, slots := 0, locals := 21 }).room s m [.ref (ly o)].toArray below meth c H locs 0 0 (MQ below (va_Qi Q (Gp D (Ec kA ly) ly n A kA) A) [.ref (ly o)].toArray s 0 0 A) (F0 m 62 ls [])) (fu_4 : Nat) (v1_4 : Int32) (v2_4 : Int32) (S_4 : St) (H : Heap) (locs : List Loc) (ls : Array Slot), wl_X10_countLit_4 o K_4 fu_4 v1_4 v2_4 S_4 → Hp D (Ec kA ly) ly n A s.heap S_4 H locs → lv_has ls 4 [(0, .ref (ly o)), (1, .int v1_4), (2, .int v2_4)] → W p l e (headSpec wsX10_countLit { frames := 1, cells := 0, slots := 0, locals := 21 }).room s m [.ref (ly o)].toArray below meth c H locs 0 0 (MQ below (va_Qi Q (Gp D (Ec kA ly) ly n A kA) A) [.ref (ly o)].toArray s 0 0 A) (F0 m 4 ls []) := by
    intro K_4 hk_4 fu_4
    induction fu_4 with
    | zero => intro v1_4 v2_4 S_4 H locs ls hw hH hl; rw [wl_X10_countLit_4] at hw; exact hw.elim
    | succ fu_4 ih_4 =>
      intro v1_4 v2_4 S_4 H locs ls hw hH hl
      rw [wl_X10_countLit_4] at hw
      refine lv_iload_n hx hb dX10_countLit_4 rfl (lv_at hl 2 rfl) ?_
      refine lv_aload_n hx hb dX10_countLit_5 rfl (lv_at hl 0 rfl) ?_
      refine gf_w_3 hx hb hts hiX10 hown hK hn hH ho lk0 dX10_countLit_6 ?_
      refine lv_icmp_ge (tgt := 62) hx hb dX10_countLit_9 (by decide) (fun hc1 => ?_) (fun hc1 => ?_)
      · replace hw := hw.1 hc1
        exact hk_4 v1_4 v2_4 S_4 _ _ ls hw hH (lv_sub hl [0, 1, 2] rfl)
      · replace hw := hw.2 hc1
        refine lv_iconst (v := 0) hx hb dX10_countLit_12 (by decide +kernel) ?_
        refine lv_istore_n (lv' := [(3, .int (0 : Int32)), (0, .ref (ly o)), (1, .int v1_4), (2, .int v2_4)]) hx hb dX10_countLit_13 rfl hl (by decide) rfl (fun ls hl => ?_)
        have L_14 : ∀ (K_14 : Int32 → Int32 → St → Prop) (hk_14 : ∀ (v1_14 : Int32) (v3_14 : Int32) (S_14 : St) (H : Heap) (locs : List Loc) (ls : Array Slot), K_14 v1_14 v3_14 S_14 → Hp D (Ec kA ly) ly n A s.heap S_14 H locs → lv_has ls 4 [(0, .ref (ly o)), (1, .int v1_14), (2, .int v2_4), (3, .int v3_14)] → W p l e (headSpec wsX10_countLit { frames := 1, cells := 0, slots := 0, locals := 21 }).room s m [.ref (ly o)].toArray below meth c H locs 0 0 (MQ below (va_Qi Q (Gp D (Ec kA ly) ly n A kA) A) [.ref (ly o)].toArray s 0 0 A) (F0 m 56 ls [])) (fu_14 : Nat) (v1_14 : Int32) (v3_14 : Int32) (S_14 : St) (H : Heap) (locs : List Loc) (ls : Array Slot), wl_X10_countLit_14 o v2_4 K_14 fu_14 v1_14 v3_14 S_14 → Hp D (Ec kA ly) ly n A s.heap S_14 H locs → lv_has ls 4 [(0, .ref (ly o)), (1, .int v1_14), (2, .int v2_4), (3, .int v3_14)] → W p l e (headSpec wsX10_countLit { frames := 1, cells := 0, slots := 0, locals := 21 }).room s m [.ref (ly o)].toArray below meth c H locs 0 0 (MQ below (va_Qi Q (Gp D (Ec kA ly) ly n A kA) A) [.ref (ly o)].toArray s 0 0 A) (F0 m 14 ls []) := by
          intro K_14 hk_14 fu_14
          induction fu_14 with
          | zero => intro v1_14 v3_14 S_14 H locs ls hw hH hl; rw [wl_X10_countLit_14] at hw; exact hw.elim
          | succ fu_14 ih_14 =>
            intro v1_14 v3_14 S_14 H locs ls hw hH hl
            rw [wl_X10_countLit_14] at hw
            refine lv_iload_n hx hb dX10_countLit_14 rfl (lv_at hl 3 rfl) ?_
            refine lv_aload_n hx hb dX10_countLit_15 rfl (lv_at hl 0 rfl) ?_
            refine gf_w_2 hx hb hts hiX10 hown hK hn hH ho lk1 dX10_countLit_16 ?_
            refine lv_iload_n hx hb dX10_countLit_19 rfl (lv_at hl 2 rfl) ?_
            obtain ⟨hi_2, hw⟩ := hw
            obtain ⟨o3, eo3⟩ : ∃ y : Nat, y = gN S_14 (o + 3) v2_4.toNatClampNeg := ⟨_, rfl⟩
            obtain ⟨ho3, hw⟩ := hw o3 eo3
            refine k_ald (t0 := 1) (v := .ref (ly o3)) hx hb hK hH (w_lt hn ho 3 (by decide)) rfl (Ec_wp ho) hi_2 (by rw [eo3]; rfl) dX10_countLit_20 ?_
            refine gf_pn_3 hx hb hts hiX3 hown hK hn hH ho3 lk2 dX10_countLit_21 ?_
            refine lv_icmp_ge (tgt := 56) hx hb dX10_countLit_24 (by decide) (fun hc4 => ?_) (fun hc4 => ?_)
            · replace hw := hw.1 hc4
              exact hk_14 v1_14 v3_14 S_14 _ _ ls hw hH (lv_sub hl [0, 1, 2, 3] rfl)
            · replace hw := hw.2 hc4
              refine lv_iload_n hx hb dX10_countLit_27 rfl (lv_at hl 1 rfl) ?_
              refine lv_aload_n hx hb dX10_countLit_28 rfl (lv_at hl 0 rfl) ?_
              refine gf_w_2 hx hb hts hiX10 hown hK hn hH ho lk1 dX10_countLit_29 ?_
              refine lv_iload_n hx hb dX10_countLit_32 rfl (lv_at hl 2 rfl) ?_
              obtain ⟨hi_5, hw⟩ := hw
              obtain ⟨o6, eo6⟩ : ∃ y : Nat, y = gN S_14 (o + 3) v2_4.toNatClampNeg := ⟨_, rfl⟩
              obtain ⟨ho6, hw⟩ := hw o6 eo6
              refine k_ald (t0 := 1) (v := .ref (ly o6)) hx hb hK hH (w_lt hn ho 3 (by decide)) rfl (Ec_wp ho) hi_5 (by rw [eo6]; rfl) dX10_countLit_33 ?_
              refine lv_iload_n hx hb dX10_countLit_34 rfl (lv_at hl 3 rfl) ?_
              refine k_afti (va_runV (As := [.int v3_14]) (rest := [.int v1_14]) ⟨hx, hb, hml, hown, hts⟩ (c_X3_glimpseAt l D kA ly n hn A o6 v3_14 S_14 _) (cwV 1 hts gX10_countLit_X3_glimpseAt rfl rfl rfl (by decide +kernel) ⟨(Nat.le_of_ble_eq_true rfl), (Nat.le_of_ble_eq_true rfl)⟩) ⟨k_blind, (k_recv hK hH (pn_lt hn ho6) (Ec_pn ho6) rfl), k_pre hK hN hH hw⟩ rfl rfl hl.1 rfl (lv_room (Nat.le_of_ble_eq_true rfl)) dX10_countLit_35 ⟨Nat.le_refl _, Nat.le_refl _⟩) hH (fun r8 S7 H locs hw hH => ?_)
              refine lv_bipush (v := -9) hx hb dX10_countLit_38 (by decide +kernel) ?_
              refine lv_icmp_ne (tgt := 47) hx hb dX10_countLit_40 (by decide) (fun hc9 => ?_) (fun hc9 => ?_)
              · replace hw := hw.2 hc9
                refine lv_iconst (v := 1) hx hb dX10_countLit_47 (by decide +kernel) ?_
                refine lv_iadd hx hb dX10_countLit_48 ?_
                refine lv_topi (fun t10 et10 => ?_)
                replace hw := hw t10 et10
                refine lv_istore_n (lv' := [(1, .int t10), (0, .ref (ly o)), (2, .int v2_4), (3, .int v3_14)]) hx hb dX10_countLit_49 rfl hl (by decide) rfl (fun ls hl => ?_)
                obtain ⟨t11, et11⟩ : ∃ y : Int32, y = v3_14 + 1 := ⟨_, rfl⟩
                replace hw := hw t11 et11
                refine lv_iinc (v := t11) (lv' := [(3, .int t11), (1, .int t10), (0, .ref (ly o)), (2, .int v2_4)]) hx hb dX10_countLit_50 hl (k := 3) rfl (by rw [et11]; rfl) (by decide) rfl (fun ls hl => ?_)
                refine lv_goto (tgt := 14) hx hb dX10_countLit_53 (by decide) ?_
                exact ih_14 t10 t11 S7 _ _ ls hw hH (lv_sub hl [2, 1, 3, 0] rfl)
              · replace hw := hw.1 hc9
                refine lv_iconst (v := 0) hx hb dX10_countLit_43 (by decide +kernel) ?_
                refine lv_goto (tgt := 48) hx hb dX10_countLit_44 (by decide) ?_
                refine lv_iadd hx hb dX10_countLit_48 ?_
                refine lv_topi (fun t12 et12 => ?_)
                replace hw := hw t12 et12
                refine lv_istore_n (lv' := [(1, .int t12), (0, .ref (ly o)), (2, .int v2_4), (3, .int v3_14)]) hx hb dX10_countLit_49 rfl hl (by decide) rfl (fun ls hl => ?_)
                obtain ⟨t13, et13⟩ : ∃ y : Int32, y = v3_14 + 1 := ⟨_, rfl⟩
                replace hw := hw t13 et13
                refine lv_iinc (v := t13) (lv' := [(3, .int t13), (1, .int t12), (0, .ref (ly o)), (2, .int v2_4)]) hx hb dX10_countLit_50 hl (k := 3) rfl (by rw [et13]; rfl) (by decide) rfl (fun ls hl => ?_)
                refine lv_goto (tgt := 14) hx hb dX10_countLit_53 (by decide) ?_
                exact ih_14 t12 t13 S7 _ _ ls hw hH (lv_sub hl [2, 1, 3, 0] rfl)
        obtain ⟨m_14, hw⟩ := hw
        refine L_14 _ (fun e1_14 e3_15 S16 H locs ls hw hH hl => ?_) m_14 v1_4 (0 : Int32) S_4 _ _ ls hw hH (lv_sub hl [1, 2, 3, 0] rfl)
        obtain ⟨t17, et17⟩ : ∃ y : Int32, y = v2_4 + 1 := ⟨_, rfl⟩
        replace hw := hw t17 et17
        refine lv_iinc (v := t17) (lv' := [(2, .int t17), (0, .ref (ly o)), (1, .int e1_14), (3, .int e3_15)]) hx hb dX10_countLit_56 hl (k := 2) rfl (by rw [et17]; rfl) (by decide) rfl (fun ls hl => ?_)
        refine lv_goto (tgt := 4) hx hb dX10_countLit_59 (by decide) ?_
        exact ih_4 e1_14 t17 S16 _ _ ls hw hH (lv_sub hl [1, 2, 0] rfl)
  obtain ⟨m_4, hw⟩ := hw
  refine L_4 _ (fun e1_18 e2_19 S20 H locs ls hw hH hl => ?_) m_4 (0 : Int32) (0 : Int32) S _ _ ls hw hH (lv_sub hl [2, 1, 0] rfl)
  refine lv_iload_n hx hb dX10_countLit_62 rfl (lv_at hl 1 rfl) ?_
  exact k_iret hx hb hr hlocks hK hN hH hw dX10_countLit_63
def wp_X10_viewIn (o : Nat) (a1 : Int32) (S : St) (Q : Int32 → St → Prop) : Prop := (isW o ∧ ((a1 = (-9 : Int32) → Q (0 : Int32) S) ∧ (¬ a1 = (-9 : Int32) → wp_X11_viewSlot (a1 - a1 / (10 : Int32) * (10 : Int32)) (a1 / (10 : Int32)) S (fun r3 S2 => (vp_in r3 200 ∧ Q (gA S2 (o + 1) r3.toNatClampNeg) S2)))))
set_option maxHeartbeats 4000000 in
set_option maxRecDepth 100000 in
theorem c_X10_viewIn (l : Launch) (D : va_G) (kA : Nat → ClassId) (ly : Nat → Nat) (n : List Nat) (hn : ∀ c, c < 59 → c ∈ n) (A : Nat → Prop) (o : Nat) (a1 : Int32) : Ci l yX10_viewIn wsX10_viewIn 1 21 (Gp D (Ec kA ly) ly n A kA) A [.ref (ly o), .int a1] (wp_X10_viewIn o a1) := by
  intro S Q
  refine Met.ofW (cc := cX10_viewIn) (maxL := 2) (ret := (some .int)) (by decide) rfl ?_
  intro p e s m args below meth c s₁ B hml hv
  obtain ⟨rfl, ⟨hP, hD, hK, hN⟩, hw⟩ := hv
  have hx := B.exec
  have hb := B.bytes
  have hr := B.returns
  have hts := atoms_spec (ws := wsX10_viewIn) B.pre
  have hown : s.vm.findClass RX10 = some m.cls := findClass_of_methodNamed B.named
  have hlocks := B.notSynchronized
  have hH : Hp D (Ec kA ly) ly n A s.heap S s.heap [] := ⟨hP, hD, va_S.rf⟩
  have hiX10 : ∀ w ∈ u_ws RX10 TX10 6, w ∈ wsX10_viewIn := by decide +kernel
  have lk0 := hts (.fieldLink RX10 9 "SlowPanes$World" "views" "[I") (by decide +kernel)
  have lk1 := hts (.initialized RX11) (by decide +kernel)
  have lk2 := hts (.static yX11_viewSlot) (by decide +kernel)
  have hl := lv_entry ([.ref (ly o), .int a1]) (n := 2) (Nat.le_of_ble_eq_true rfl)
  rw [lg_entry_eq]
  generalize (lg_sl ([.ref (ly o), .int a1]) ++ List.replicate (2 - (lg_sl ([.ref (ly o), .int a1])).length) Slot.unset).toArray = ls at hl ⊢
  have hl : lv_has ls 2 [(0, .ref (ly o)), (1, .int a1)] := hl
  rw [wp_X10_viewIn] at hw
  obtain ⟨ho, hw⟩ := hw
  refine lv_iload_n hx hb dX10_viewIn_0 rfl (lv_at hl 1 rfl) ?_
  refine lv_bipush (v := -9) hx hb dX10_viewIn_1 (by decide +kernel) ?_
  refine lv_icmp_ne (tgt := 10) hx hb dX10_viewIn_3 (by decide) (fun hc1 => ?_) (fun hc1 => ?_)
  · replace hw := hw.2 hc1
    refine lv_aload_n hx hb dX10_viewIn_10 rfl (lv_at hl 0 rfl) ?_
    refine gf_w_0 hx hb hts hiX10 hown hK hn hH ho lk0 dX10_viewIn_11 ?_
    refine lv_iload_n hx hb dX10_viewIn_14 rfl (lv_at hl 1 rfl) ?_
    refine lv_bipush (v := 10) hx hb dX10_viewIn_15 (by decide +kernel) ?_
    refine lv_irem hx hb dX10_viewIn_17 (by decide) ?_
    refine lv_iload_n hx hb dX10_viewIn_18 rfl (lv_at hl 1 rfl) ?_
    refine lv_bipush (v := 10) hx hb dX10_viewIn_19 (by decide +kernel) ?_
    refine lv_idiv hx hb dX10_viewIn_21 (by decide) ?_
    refine k_afti (va_runSN (As := [.int (a1 - a1 / (10 : Int32) * (10 : Int32)), .int (a1 / (10 : Int32))]) (rest := [.ref (ly (o + 1))]) ⟨hx, hb, hml, hown, hts⟩ (c_X11_viewSlot l D kA ly n hn A (a1 - a1 / (10 : Int32) * (10 : Int32)) (a1 / (10 : Int32)) S _) ⟨va_cnB 2 hts gX10_viewIn_X11_viewSlot_n58 rfl rfl rfl (hN _ (List.mem_of_getElem? (i := 7) rfl)) lk1 (by decide +kernel) ⟨(Nat.le_of_ble_eq_true rfl), (Nat.le_of_ble_eq_true rfl)⟩, lk2, trivial⟩ ⟨k_blind, k_pre hK hN hH hw⟩ rfl rfl hl.1 rfl (lv_room (Nat.le_of_ble_eq_true rfl)) dX10_viewIn_22 ⟨Nat.le_refl _, Nat.le_refl _⟩) hH (fun r3 S2 H locs hw hH => ?_)
    obtain ⟨hi_4, hw⟩ := hw
    refine k_ild hx hb hK hH (w_lt hn ho 1 (by decide)) (Ec_wv ho) hi_4 dX10_viewIn_25 ?_
    exact k_iret hx hb hr hlocks hK hN hH hw dX10_viewIn_26
  · replace hw := hw.1 hc1
    refine lv_iconst (v := 0) hx hb dX10_viewIn_6 (by decide +kernel) ?_
    refine lv_goto (tgt := 26) hx hb dX10_viewIn_7 (by decide) ?_
    exact k_iret hx hb hr hlocks hK hN hH hw dX10_viewIn_26
