def wp_X9_begin (a1 : Int32) (S : St) (Q : St → Prop) : Prop := (((gI S 7 2) = 0 → (((30 : Int32) ≤ (gI S 7 1) → Q S) ∧ (¬ (30 : Int32) ≤ (gI S 7 1) → (vp_in (gI S 7 1) 30 ∧ ∀ S4 : St, S4 = sA S 8 (gI S 7 1).toNatClampNeg a1 → (∀ S5 : St, S5 = sI S4 7 1 ((gI S4 7 1) + (1 : Int32)) → Q S5))))) ∧ (¬ (gI S 7 2) = 0 → Q S))
set_option maxHeartbeats 4000000 in
set_option maxRecDepth 100000 in
theorem c_X9_begin (l : Launch) (D : va_G) (kA : Nat → ClassId) (ly : Nat → Nat) (n : List Nat) (hn : ∀ c, c < 59 → c ∈ n) (A : Nat → Prop) (a1 : Int32) : Cv l yX9_begin wsX9_begin 0 0 (Gp D (Ec kA ly) ly n A kA) A [.ref (ly 7), .int a1] (wp_X9_begin a1) := by
  intro S Q
  refine Met.ofW (cc := cX9_begin) (maxL := 2) (ret := none) (by decide) rfl ?_
  intro p e s m args below meth c s₁ B hml hv
  obtain ⟨rfl, ⟨hP, hD, hK, hN⟩, hw⟩ := hv
  have hx := B.exec
  have hb := B.bytes
  have hr := B.returns
  have hts := atoms_spec (ws := wsX9_begin) B.pre
  have hown : s.vm.findClass RX9 = some m.cls := findClass_of_methodNamed B.named
  have hlocks := B.notSynchronized
  have hH : Hp D (Ec kA ly) ly n A s.heap S s.heap [] := ⟨hP, hD, va_S.rf⟩
  have hiX9 : ∀ w ∈ u_ws RX9 TX9 3, w ∈ wsX9_begin := by decide +kernel
  have lk0 := hts (.fieldLink RX9 19 "SlowPanes$Trace" "isParted" "Z") (by decide +kernel)
  have lk1 := hts (.fieldLink RX9 15 "SlowPanes$Trace" "count" "I") (by decide +kernel)
  have lk2 := hts (.fieldLink RX9 9 "SlowPanes$Trace" "bodies" "[I") (by decide +kernel)
  have hl := lv_entry ([.ref (ly 7), .int a1]) (n := 2) (Nat.le_of_ble_eq_true rfl)
  rw [lg_entry_eq]
  generalize (lg_sl ([.ref (ly 7), .int a1]) ++ List.replicate (2 - (lg_sl ([.ref (ly 7), .int a1])).length) Slot.unset).toArray = ls at hl ⊢
  have hl : lv_has ls 2 [(0, .ref (ly 7)), (1, .int a1)] := hl
  rw [wp_X9_begin] at hw
  refine lv_aload_n hx hb dX9_begin_0 rfl (lv_at hl 0 rfl) ?_
  refine gf_tr_2 hx hb hts hiX9 hown hK hn hH lk0 dX9_begin_1 ?_
  refine lv_if_ne (tgt := 36) hx hb dX9_begin_4 (by decide) (fun hc1 => ?_) (fun hc1 => ?_)
  · replace hw := hw.2 hc1
    exact k_vret hx hb hr hlocks hK hN hH hw dX9_begin_36
  · replace hw := hw.1 hc1
    refine lv_aload_n hx hb dX9_begin_7 rfl (lv_at hl 0 rfl) ?_
    refine gf_tr_1 hx hb hts hiX9 hown hK hn hH lk1 dX9_begin_8 ?_
    refine lv_bipush (v := 30) hx hb dX9_begin_11 (by decide +kernel) ?_
    refine lv_icmp_ge (tgt := 36) hx hb dX9_begin_13 (by decide) (fun hc2 => ?_) (fun hc2 => ?_)
    · replace hw := hw.1 hc2
      exact k_vret hx hb hr hlocks hK hN hH hw dX9_begin_36
    · replace hw := hw.2 hc2
      refine lv_aload_n hx hb dX9_begin_16 rfl (lv_at hl 0 rfl) ?_
      refine gf_tr_0 hx hb hts hiX9 hown hK hn hH lk2 dX9_begin_17 ?_
      refine lv_aload_n hx hb dX9_begin_20 rfl (lv_at hl 0 rfl) ?_
      refine gf_tr_1 hx hb hts hiX9 hown hK hn hH lk1 dX9_begin_21 ?_
      refine lv_iload_n hx hb dX9_begin_24 rfl (lv_at hl 1 rfl) ?_
      obtain ⟨hi_3, hw⟩ := hw
      refine k_ist hx hb hK hH (lt_n hn (by decide)) (fun _ => Ec_8) hi_3 dX9_begin_25 (fun S4 H locs eS4 hH => ?_)
      replace hw := hw S4 eS4
      refine lv_aload_n hx hb dX9_begin_26 rfl (lv_at hl 0 rfl) ?_
      refine lv_dup hx hb dX9_begin_27 rfl ?_
      refine gf_tr_1 hx hb hts hiX9 hown hK hn hH lk1 dX9_begin_28 ?_
      refine lv_iconst (v := 1) hx hb dX9_begin_31 (by decide +kernel) ?_
      refine lv_iadd hx hb dX9_begin_32 ?_
      refine pf_tr_1 hx hb hts hiX9 hown hK hn hH lk1 dX9_begin_33 (fun S5 H locs eS5 hH => ?_)
      replace hw := hw S5 eS5
      exact k_vret hx hb hr hlocks hK hN hH hw dX9_begin_36
def wp_X9_part (a1 : Int32) (a2 : Int32) (S : St) (Q : Int32 → St → Prop) : Prop := ((a2 = 0 → (∀ S3 : St, S3 = sI S 7 2 (1 : Int32) → Q (0 : Int32) S3)) ∧ (¬ a2 = 0 → (¬ a2 = 0 ∧ Q (a1 / a2) S)))
set_option maxHeartbeats 4000000 in
set_option maxRecDepth 100000 in
theorem c_X9_part (l : Launch) (D : va_G) (kA : Nat → ClassId) (ly : Nat → Nat) (n : List Nat) (hn : ∀ c, c < 59 → c ∈ n) (A : Nat → Prop) (a1 : Int32) (a2 : Int32) : Ci l yX9_part wsX9_part 0 0 (Gp D (Ec kA ly) ly n A kA) A [.ref (ly 7), .int a1, .int a2] (wp_X9_part a1 a2) := by
  intro S Q
  refine Met.ofW (cc := cX9_part) (maxL := 3) (ret := (some .int)) (by decide) rfl ?_
  intro p e s m args below meth c s₁ B hml hv
  obtain ⟨rfl, ⟨hP, hD, hK, hN⟩, hw⟩ := hv
  have hx := B.exec
  have hb := B.bytes
  have hr := B.returns
  have hts := atoms_spec (ws := wsX9_part) B.pre
  have hown : s.vm.findClass RX9 = some m.cls := findClass_of_methodNamed B.named
  have hlocks := B.notSynchronized
  have hH : Hp D (Ec kA ly) ly n A s.heap S s.heap [] := ⟨hP, hD, va_S.rf⟩
  have hiX9 : ∀ w ∈ u_ws RX9 TX9 3, w ∈ wsX9_part := by decide +kernel
  have lk0 := hts (.fieldLink RX9 19 "SlowPanes$Trace" "isParted" "Z") (by decide +kernel)
  have hl := lv_entry ([.ref (ly 7), .int a1, .int a2]) (n := 3) (Nat.le_of_ble_eq_true rfl)
  rw [lg_entry_eq]
  generalize (lg_sl ([.ref (ly 7), .int a1, .int a2]) ++ List.replicate (3 - (lg_sl ([.ref (ly 7), .int a1, .int a2])).length) Slot.unset).toArray = ls at hl ⊢
  have hl : lv_has ls 3 [(0, .ref (ly 7)), (1, .int a1), (2, .int a2)] := hl
  rw [wp_X9_part] at hw
  refine lv_iload_n hx hb dX9_part_0 rfl (lv_at hl 2 rfl) ?_
  refine lv_if_ne (tgt := 11) hx hb dX9_part_1 (by decide) (fun hc1 => ?_) (fun hc1 => ?_)
  · replace hw := hw.2 hc1
    refine lv_iload_n hx hb dX9_part_11 rfl (lv_at hl 1 rfl) ?_
    refine lv_iload_n hx hb dX9_part_12 rfl (lv_at hl 2 rfl) ?_
    obtain ⟨hz2, hw⟩ := hw
    refine lv_idiv hx hb dX9_part_13 hz2 ?_
    exact k_iret hx hb hr hlocks hK hN hH hw dX9_part_14
  · replace hw := hw.1 hc1
    refine lv_aload_n hx hb dX9_part_4 rfl (lv_at hl 0 rfl) ?_
    refine lv_iconst (v := 1) hx hb dX9_part_5 (by decide +kernel) ?_
    refine pf_tr_2 hx hb hts hiX9 hown hK hn hH lk0 isB_1 dX9_part_6 (fun S3 H locs eS3 hH => ?_)
    replace hw := hw S3 eS3
    refine lv_iconst (v := 0) hx hb dX9_part_9 (by decide +kernel) ?_
    exact k_iret hx hb hr hlocks hK hN hH hw dX9_part_10
def wp_X3_putGlimpse (o : Nat) (a1 : Int32) (a2 : Int32) (S : St) (Q : St → Prop) : Prop := (isPn o ∧ (vp_in (((gI S o 1) + a1) &&& (15 : Int32)) 16 ∧ ∀ S2 : St, S2 = sA S (o + 1) (((gI S o 1) + a1) &&& (15 : Int32)).toNatClampNeg a2 → Q S2))
set_option maxHeartbeats 4000000 in
set_option maxRecDepth 100000 in
theorem c_X3_putGlimpse (l : Launch) (D : va_G) (kA : Nat → ClassId) (ly : Nat → Nat) (n : List Nat) (hn : ∀ c, c < 59 → c ∈ n) (A : Nat → Prop) (o : Nat) (a1 : Int32) (a2 : Int32) : Cv l yX3_putGlimpse wsX3_putGlimpse 0 0 (Gp D (Ec kA ly) ly n A kA) A [.ref (ly o), .int a1, .int a2] (wp_X3_putGlimpse o a1 a2) := by
  intro S Q
  refine Met.ofW (cc := cX3_putGlimpse) (maxL := 3) (ret := none) (by decide) rfl ?_
  intro p e s m args below meth c s₁ B hml hv
  obtain ⟨rfl, ⟨hP, hD, hK, hN⟩, hw⟩ := hv
  have hx := B.exec
  have hb := B.bytes
  have hr := B.returns
  have hts := atoms_spec (ws := wsX3_putGlimpse) B.pre
  have hown : s.vm.findClass RX3 = some m.cls := findClass_of_methodNamed B.named
  have hlocks := B.notSynchronized
  have hH : Hp D (Ec kA ly) ly n A s.heap S s.heap [] := ⟨hP, hD, va_S.rf⟩
  have hiX3 : ∀ w ∈ u_ws RX3 TX3 5, w ∈ wsX3_putGlimpse := by decide +kernel
  have lk0 := hts (.fieldLink RX3 9 "SlowPanes$Pane" "ring" "[I") (by decide +kernel)
  have lk1 := hts (.fieldLink RX3 15 "SlowPanes$Pane" "face" "I") (by decide +kernel)
  have hl := lv_entry ([.ref (ly o), .int a1, .int a2]) (n := 3) (Nat.le_of_ble_eq_true rfl)
  rw [lg_entry_eq]
  generalize (lg_sl ([.ref (ly o), .int a1, .int a2]) ++ List.replicate (3 - (lg_sl ([.ref (ly o), .int a1, .int a2])).length) Slot.unset).toArray = ls at hl ⊢
  have hl : lv_has ls 3 [(0, .ref (ly o)), (1, .int a1), (2, .int a2)] := hl
  rw [wp_X3_putGlimpse] at hw
  obtain ⟨ho, hw⟩ := hw
  refine lv_aload_n hx hb dX3_putGlimpse_0 rfl (lv_at hl 0 rfl) ?_
  refine gf_pn_0 hx hb hts hiX3 hown hK hn hH ho lk0 dX3_putGlimpse_1 ?_
  refine lv_aload_n hx hb dX3_putGlimpse_4 rfl (lv_at hl 0 rfl) ?_
  refine gf_pn_1 hx hb hts hiX3 hown hK hn hH ho lk1 dX3_putGlimpse_5 ?_
  refine lv_iload_n hx hb dX3_putGlimpse_8 rfl (lv_at hl 1 rfl) ?_
  refine lv_iadd hx hb dX3_putGlimpse_9 ?_
  refine lv_bipush (v := 15) hx hb dX3_putGlimpse_10 (by decide +kernel) ?_
  refine lv_iand hx hb dX3_putGlimpse_12 ?_
  refine lv_iload_n hx hb dX3_putGlimpse_13 rfl (lv_at hl 2 rfl) ?_
  obtain ⟨hi_1, hw⟩ := hw
  refine k_ist hx hb hK hH (pr_lt hn ho) (fun _ => (Ec_pr ho)) hi_1 dX3_putGlimpse_14 (fun S2 H locs eS2 hH => ?_)
  replace hw := hw S2 eS2
  exact k_vret hx hb hr hlocks hK hN hH hw dX3_putGlimpse_15
def wl_X3_become_17 (o : Nat) (a2 : Int32) (K_17 : Int32 → St → Prop) : Nat → Int32 → St → Prop
  | 0, _, _ => False
  | fu_17 + 1, v3_17, S_17 => ((a2 ≤ v3_17 → K_17 v3_17 S_17) ∧ (¬ a2 ≤ v3_17 → wp_X3_putGlimpse o v3_17 (-9 : Int32) S_17 (fun S5 => (∀ t6 : Int32, t6 = v3_17 + 1 → wl_X3_become_17 o a2 K_17 fu_17 t6 S5))))
def wp_X3_become (o : Nat) (a1 : Int32) (a2 : Int32) (S : St) (Q : St → Prop) : Prop := (isPn o ∧ (∀ S1 : St, S1 = sI S o 2 a1 → (∀ S2 : St, S2 = sI S1 o 3 a2 → (∀ S3 : St, S3 = sI S2 o 4 (4 : Int32) → (∃ m_17 : Nat, wl_X3_become_17 o a2 (fun e3_7 S8 => Q S8) m_17 (0 : Int32) S3)))))
set_option maxHeartbeats 4000000 in
set_option maxRecDepth 100000 in
theorem c_X3_become (l : Launch) (D : va_G) (kA : Nat → ClassId) (ly : Nat → Nat) (n : List Nat) (hn : ∀ c, c < 59 → c ∈ n) (A : Nat → Prop) (o : Nat) (a1 : Int32) (a2 : Int32) : Cv l yX3_become wsX3_become 1 22 (Gp D (Ec kA ly) ly n A kA) A [.ref (ly o), .int a1, .int a2] (wp_X3_become o a1 a2) := by
  intro S Q
  refine Met.ofW (cc := cX3_become) (maxL := 4) (ret := none) (by decide) rfl ?_
  intro p e s m args below meth c s₁ B hml hv
  obtain ⟨rfl, ⟨hP, hD, hK, hN⟩, hw⟩ := hv
  have hx := B.exec
  have hb := B.bytes
  have hr := B.returns
  have hts := atoms_spec (ws := wsX3_become) B.pre
  have hown : s.vm.findClass RX3 = some m.cls := findClass_of_methodNamed B.named
  have hlocks := B.notSynchronized
  have hH : Hp D (Ec kA ly) ly n A s.heap S s.heap [] := ⟨hP, hD, va_S.rf⟩
  have hiX3 : ∀ w ∈ u_ws RX3 TX3 5, w ∈ wsX3_become := by decide +kernel
  have lk0 := hts (.fieldLink RX3 19 "SlowPanes$Pane" "kind" "I") (by decide +kernel)
  have lk1 := hts (.fieldLink RX3 22 "SlowPanes$Pane" "count" "I") (by decide +kernel)
  have lk2 := hts (.fieldLink RX3 25 "SlowPanes$Pane" "place" "I") (by decide +kernel)
  have hl := lv_entry ([.ref (ly o), .int a1, .int a2]) (n := 4) (Nat.le_of_ble_eq_true rfl)
  rw [lg_entry_eq]
  generalize (lg_sl ([.ref (ly o), .int a1, .int a2]) ++ List.replicate (4 - (lg_sl ([.ref (ly o), .int a1, .int a2])).length) Slot.unset).toArray = ls at hl ⊢
  have hl : lv_has ls 4 [(0, .ref (ly o)), (1, .int a1), (2, .int a2)] := hl
  rw [wp_X3_become] at hw
  obtain ⟨ho, hw⟩ := hw
  refine lv_aload_n hx hb dX3_become_0 rfl (lv_at hl 0 rfl) ?_
  refine lv_iload_n hx hb dX3_become_1 rfl (lv_at hl 1 rfl) ?_
  refine pf_pn_2 hx hb hts hiX3 hown hK hn hH ho lk0 dX3_become_2 (fun S1 H locs eS1 hH => ?_)
  replace hw := hw S1 eS1
  refine lv_aload_n hx hb dX3_become_5 rfl (lv_at hl 0 rfl) ?_
  refine lv_iload_n hx hb dX3_become_6 rfl (lv_at hl 2 rfl) ?_
  refine pf_pn_3 hx hb hts hiX3 hown hK hn hH ho lk1 dX3_become_7 (fun S2 H locs eS2 hH => ?_)
  replace hw := hw S2 eS2
  refine lv_aload_n hx hb dX3_become_10 rfl (lv_at hl 0 rfl) ?_
  refine lv_iconst (v := 4) hx hb dX3_become_11 (by decide +kernel) ?_
  refine pf_pn_4 hx hb hts hiX3 hown hK hn hH ho lk2 dX3_become_12 (fun S3 H locs eS3 hH => ?_)
  replace hw := hw S3 eS3
  refine lv_iconst (v := 0) hx hb dX3_become_15 (by decide +kernel) ?_
  refine lv_istore_n (lv' := [(3, .int (0 : Int32)), (0, .ref (ly o)), (1, .int a1), (2, .int a2)]) hx hb dX3_become_16 rfl hl (by decide) rfl (fun ls hl => ?_)
  have L_17 : ∀ (K_17 : Int32 → St → Prop) (hk_17 : ∀ (v3_17 : Int32) (S_17 : St) (H : Heap) (locs : List Loc) (ls : Array Slot), K_17 v3_17 S_17 → Hp D (Ec kA ly) ly n A s.heap S_17 H locs → lv_has ls 4 [(0, .ref (ly o)), (1, .int a1), (2, .int a2), (3, .int v3_17)] → W p l e (headSpec wsX3_become { frames := 1, cells := 0, slots := 0, locals := 22 }).room s m [.ref (ly o), .int a1, .int a2].toArray below meth c H locs 0 0 (MQ below (va_Qv Q (Gp D (Ec kA ly) ly n A kA) A) [.ref (ly o), .int a1, .int a2].toArray s 0 0 A) (F0 m 35 ls [])) (fu_17 : Nat) (v3_17 : Int32) (S_17 : St) (H : Heap) (locs : List Loc) (ls : Array Slot), wl_X3_become_17 o a2 K_17 fu_17 v3_17 S_17 → Hp D (Ec kA ly) ly n A s.heap S_17 H locs → lv_has ls 4 [(0, .ref (ly o)), (1, .int a1), (2, .int a2), (3, .int v3_17)] → W p l e (headSpec wsX3_become { frames := 1, cells := 0, slots := 0, locals := 22 }).room s m [.ref (ly o), .int a1, .int a2].toArray below meth c H locs 0 0 (MQ below (va_Qv Q (Gp D (Ec kA ly) ly n A kA) A) [.ref (ly o), .int a1, .int a2].toArray s 0 0 A) (F0 m 17 ls []) := by
    intro K_17 hk_17 fu_17
    induction fu_17 with
    | zero => intro v3_17 S_17 H locs ls hw hH hl; rw [wl_X3_become_17] at hw; exact hw.elim
    | succ fu_17 ih_17 =>
      intro v3_17 S_17 H locs ls hw hH hl
      rw [wl_X3_become_17] at hw
      refine lv_iload_n hx hb dX3_become_17 rfl (lv_at hl 3 rfl) ?_
      refine lv_iload_n hx hb dX3_become_18 rfl (lv_at hl 2 rfl) ?_
      refine lv_icmp_ge (tgt := 35) hx hb dX3_become_19 (by decide) (fun hc4 => ?_) (fun hc4 => ?_)
      · replace hw := hw.1 hc4
        exact hk_17 v3_17 S_17 _ _ ls hw hH (lv_sub hl [0, 1, 2, 3] rfl)
      · replace hw := hw.2 hc4
        refine lv_aload_n hx hb dX3_become_22 rfl (lv_at hl 0 rfl) ?_
        refine lv_iload_n hx hb dX3_become_23 rfl (lv_at hl 3 rfl) ?_
        refine lv_bipush (v := -9) hx hb dX3_become_24 (by decide +kernel) ?_
        refine k_aftv (va_runV (As := [.int v3_17, .int (-9 : Int32)]) (rest := []) ⟨hx, hb, hml, hown, hts⟩ (c_X3_putGlimpse l D kA ly n hn A o v3_17 (-9 : Int32) S_17 _) (cwV 2 hts gX3_become_X3_putGlimpse rfl rfl rfl (by decide +kernel) ⟨(Nat.le_of_ble_eq_true rfl), (Nat.le_of_ble_eq_true rfl)⟩) ⟨k_blind, (k_recv hK hH (pn_lt hn ho) (Ec_pn ho) rfl), k_pre hK hN hH hw⟩ rfl rfl hl.1 rfl (lv_room (Nat.le_of_ble_eq_true rfl)) dX3_become_26 ⟨Nat.le_refl _, Nat.le_refl _⟩) hH (fun S5 H locs hw hH => ?_)
        obtain ⟨t6, et6⟩ : ∃ y : Int32, y = v3_17 + 1 := ⟨_, rfl⟩
        replace hw := hw t6 et6
        refine lv_iinc (v := t6) (lv' := [(3, .int t6), (0, .ref (ly o)), (1, .int a1), (2, .int a2)]) hx hb dX3_become_29 hl (k := 3) rfl (by rw [et6]; rfl) (by decide) rfl (fun ls hl => ?_)
        refine lv_goto (tgt := 17) hx hb dX3_become_32 (by decide) ?_
        exact ih_17 t6 S5 _ _ ls hw hH (lv_sub hl [1, 2, 3, 0] rfl)
  obtain ⟨m_17, hw⟩ := hw
  refine L_17 _ (fun e3_7 S8 H locs ls hw hH hl => ?_) m_17 (0 : Int32) S3 _ _ ls hw hH (lv_sub hl [1, 2, 3, 0] rfl)
  exact k_vret hx hb hr hlocks hK hN hH hw dX3_become_35
def wp_X3_glimpseAt (o : Nat) (a1 : Int32) (S : St) (Q : Int32 → St → Prop) : Prop := (isPn o ∧ (vp_in (((gI S o 1) + a1) &&& (15 : Int32)) 16 ∧ Q (gA S (o + 1) (((gI S o 1) + a1) &&& (15 : Int32)).toNatClampNeg) S))
set_option maxHeartbeats 4000000 in
set_option maxRecDepth 100000 in
theorem c_X3_glimpseAt (l : Launch) (D : va_G) (kA : Nat → ClassId) (ly : Nat → Nat) (n : List Nat) (hn : ∀ c, c < 59 → c ∈ n) (A : Nat → Prop) (o : Nat) (a1 : Int32) : Ci l yX3_glimpseAt wsX3_glimpseAt 0 0 (Gp D (Ec kA ly) ly n A kA) A [.ref (ly o), .int a1] (wp_X3_glimpseAt o a1) := by
  intro S Q
  refine Met.ofW (cc := cX3_glimpseAt) (maxL := 2) (ret := (some .int)) (by decide) rfl ?_
  intro p e s m args below meth c s₁ B hml hv
  obtain ⟨rfl, ⟨hP, hD, hK, hN⟩, hw⟩ := hv
  have hx := B.exec
  have hb := B.bytes
  have hr := B.returns
  have hts := atoms_spec (ws := wsX3_glimpseAt) B.pre
  have hown : s.vm.findClass RX3 = some m.cls := findClass_of_methodNamed B.named
  have hlocks := B.notSynchronized
  have hH : Hp D (Ec kA ly) ly n A s.heap S s.heap [] := ⟨hP, hD, va_S.rf⟩
  have hiX3 : ∀ w ∈ u_ws RX3 TX3 5, w ∈ wsX3_glimpseAt := by decide +kernel
  have lk0 := hts (.fieldLink RX3 9 "SlowPanes$Pane" "ring" "[I") (by decide +kernel)
  have lk1 := hts (.fieldLink RX3 15 "SlowPanes$Pane" "face" "I") (by decide +kernel)
  have hl := lv_entry ([.ref (ly o), .int a1]) (n := 2) (Nat.le_of_ble_eq_true rfl)
  rw [lg_entry_eq]
  generalize (lg_sl ([.ref (ly o), .int a1]) ++ List.replicate (2 - (lg_sl ([.ref (ly o), .int a1])).length) Slot.unset).toArray = ls at hl ⊢
  have hl : lv_has ls 2 [(0, .ref (ly o)), (1, .int a1)] := hl
  rw [wp_X3_glimpseAt] at hw
  obtain ⟨ho, hw⟩ := hw
  refine lv_aload_n hx hb dX3_glimpseAt_0 rfl (lv_at hl 0 rfl) ?_
  refine gf_pn_0 hx hb hts hiX3 hown hK hn hH ho lk0 dX3_glimpseAt_1 ?_
  refine lv_aload_n hx hb dX3_glimpseAt_4 rfl (lv_at hl 0 rfl) ?_
  refine gf_pn_1 hx hb hts hiX3 hown hK hn hH ho lk1 dX3_glimpseAt_5 ?_
  refine lv_iload_n hx hb dX3_glimpseAt_8 rfl (lv_at hl 1 rfl) ?_
  refine lv_iadd hx hb dX3_glimpseAt_9 ?_
  refine lv_bipush (v := 15) hx hb dX3_glimpseAt_10 (by decide +kernel) ?_
  refine lv_iand hx hb dX3_glimpseAt_12 ?_
  obtain ⟨hi_1, hw⟩ := hw
  refine k_ild hx hb hK hH (pr_lt hn ho) (Ec_pr ho) hi_1 dX3_glimpseAt_13 ?_
  exact k_iret hx hb hr hlocks hK hN hH hw dX3_glimpseAt_14
def wp_X3_copyFrom (o : Nat) (a1 : Nat) (S : St) (Q : St → Prop) : Prop := (isPn o ∧ (isPn a1 ∧ (∀ S1 : St, S1 = sI S o 2 (gI S a1 2) → (∀ S2 : St, S2 = sI S1 o 3 (gI S1 a1 3) → (∀ S3 : St, S3 = sI S2 o 4 (gI S2 a1 4) → (∀ S4 : St, S4 = sI S3 o 1 (gI S3 a1 1) → (∀ S5 : St, S5 = sR S4 (o + 1) (va_cpy (gA S4 (a1 + 1)) (gA S4 (o + 1)) 0 0 16) → Q S5)))))))
set_option maxHeartbeats 4000000 in
set_option maxRecDepth 100000 in
theorem c_X3_copyFrom (l : Launch) (D : va_G) (kA : Nat → ClassId) (ly : Nat → Nat) (n : List Nat) (hn : ∀ c, c < 59 → c ∈ n) (A : Nat → Prop) (o : Nat) (a1 : Nat) : Cv l yX3_copyFrom wsX3_copyFrom 1 60 (Gp D (Ec kA ly) ly n A kA) A [.ref (ly o), .ref (ly a1)] (wp_X3_copyFrom o a1) := by
  intro S Q
  refine Met.ofW (cc := cX3_copyFrom) (maxL := 2) (ret := none) (by decide) rfl ?_
  intro p e s m args below meth c s₁ B hml hv
  obtain ⟨rfl, ⟨hP, hD, hK, hN⟩, hw⟩ := hv
  have hx := B.exec
  have hb := B.bytes
  have hr := B.returns
  have hts := atoms_spec (ws := wsX3_copyFrom) B.pre
  have hown : s.vm.findClass RX3 = some m.cls := findClass_of_methodNamed B.named
  have hlocks := B.notSynchronized
  have hH : Hp D (Ec kA ly) ly n A s.heap S s.heap [] := ⟨hP, hD, va_S.rf⟩
  have hiX3 : ∀ w ∈ u_ws RX3 TX3 5, w ∈ wsX3_copyFrom := by decide +kernel
  have lk0 := hts (.fieldLink RX3 19 "SlowPanes$Pane" "kind" "I") (by decide +kernel)
  have lk1 := hts (.fieldLink RX3 22 "SlowPanes$Pane" "count" "I") (by decide +kernel)
  have lk2 := hts (.fieldLink RX3 25 "SlowPanes$Pane" "place" "I") (by decide +kernel)
  have lk3 := hts (.fieldLink RX3 15 "SlowPanes$Pane" "face" "I") (by decide +kernel)
  have lk4 := hts (.fieldLink RX3 9 "SlowPanes$Pane" "ring" "[I") (by decide +kernel)
  have lk5 := hts (.methodLink RX3 32 arraycopyName) (by decide +kernel)
  have lk6 := hts (.native arraycopyName) (by decide +kernel)
  have lk7 := hts (.static arraycopyName) (by decide +kernel)
  have lk8 := hts (.initialized "java/lang/System") (by decide +kernel)
  have hl := lv_entry ([.ref (ly o), .ref (ly a1)]) (n := 2) (Nat.le_of_ble_eq_true rfl)
  rw [lg_entry_eq]
  generalize (lg_sl ([.ref (ly o), .ref (ly a1)]) ++ List.replicate (2 - (lg_sl ([.ref (ly o), .ref (ly a1)])).length) Slot.unset).toArray = ls at hl ⊢
  have hl : lv_has ls 2 [(0, .ref (ly o)), (1, .ref (ly a1))] := hl
  rw [wp_X3_copyFrom] at hw
  obtain ⟨ho, hw⟩ := hw
  obtain ⟨ha1, hw⟩ := hw
  refine lv_aload_n hx hb dX3_copyFrom_0 rfl (lv_at hl 0 rfl) ?_
  refine lv_aload_n hx hb dX3_copyFrom_1 rfl (lv_at hl 1 rfl) ?_
  refine gf_pn_2 hx hb hts hiX3 hown hK hn hH ha1 lk0 dX3_copyFrom_2 ?_
  refine pf_pn_2 hx hb hts hiX3 hown hK hn hH ho lk0 dX3_copyFrom_5 (fun S1 H locs eS1 hH => ?_)
  replace hw := hw S1 eS1
  refine lv_aload_n hx hb dX3_copyFrom_8 rfl (lv_at hl 0 rfl) ?_
  refine lv_aload_n hx hb dX3_copyFrom_9 rfl (lv_at hl 1 rfl) ?_
  refine gf_pn_3 hx hb hts hiX3 hown hK hn hH ha1 lk1 dX3_copyFrom_10 ?_
  refine pf_pn_3 hx hb hts hiX3 hown hK hn hH ho lk1 dX3_copyFrom_13 (fun S2 H locs eS2 hH => ?_)
  replace hw := hw S2 eS2
  refine lv_aload_n hx hb dX3_copyFrom_16 rfl (lv_at hl 0 rfl) ?_
  refine lv_aload_n hx hb dX3_copyFrom_17 rfl (lv_at hl 1 rfl) ?_
  refine gf_pn_4 hx hb hts hiX3 hown hK hn hH ha1 lk2 dX3_copyFrom_18 ?_
  refine pf_pn_4 hx hb hts hiX3 hown hK hn hH ho lk2 dX3_copyFrom_21 (fun S3 H locs eS3 hH => ?_)
  replace hw := hw S3 eS3
  refine lv_aload_n hx hb dX3_copyFrom_24 rfl (lv_at hl 0 rfl) ?_
  refine lv_aload_n hx hb dX3_copyFrom_25 rfl (lv_at hl 1 rfl) ?_
  refine gf_pn_1 hx hb hts hiX3 hown hK hn hH ha1 lk3 dX3_copyFrom_26 ?_
  refine pf_pn_1 hx hb hts hiX3 hown hK hn hH ho lk3 dX3_copyFrom_29 (fun S4 H locs eS4 hH => ?_)
  replace hw := hw S4 eS4
  refine lv_aload_n hx hb dX3_copyFrom_32 rfl (lv_at hl 1 rfl) ?_
  refine gf_pn_0 hx hb hts hiX3 hown hK hn hH ha1 lk4 dX3_copyFrom_33 ?_
  refine lv_iconst (v := 0) hx hb dX3_copyFrom_36 (by decide +kernel) ?_
  refine lv_aload_n hx hb dX3_copyFrom_37 rfl (lv_at hl 0 rfl) ?_
  refine gf_pn_0 hx hb hts hiX3 hown hK hn hH ho lk4 dX3_copyFrom_38 ?_
  refine lv_iconst (v := 0) hx hb dX3_copyFrom_41 (by decide +kernel) ?_
  refine lv_bipush (v := 16) hx hb dX3_copyFrom_42 (by decide +kernel) ?_
  refine k_copy (sp' := 0) (dp' := 0) (k' := 16) hx hb (hml.trans hl.1.symm) hown lk5 lk6 lk7 lk8 hK hH (pr_lt hn ha1) (pr_lt hn ho) (Ec_pr ha1) (fun _ => (Ec_pr ho)) (by decide) (by decide) (by decide) (by decide) (by decide) (by decide) ⟨by decide, by decide⟩ (Nat.le_of_ble_eq_true rfl) (Nat.le_of_ble_eq_true rfl) dX3_copyFrom_44 (fun S5 H locs eS5 hH => ?_)
  replace hw := hw S5 eS5
  exact k_vret hx hb hr hlocks hK hN hH hw dX3_copyFrom_47
def wl_X3_becomeBehind_13 (o : Nat) (a1 : Nat) (a2 : Int32) (K_13 : Int32 → St → Prop) : Nat → Int32 → St → Prop
  | 0, _, _ => False
  | fu_13 + 1, v3_13, S_13 => (((gI S_13 o 3) ≤ v3_13 → K_13 v3_13 S_13) ∧ (¬ (gI S_13 o 3) ≤ v3_13 → wp_X3_glimpseAt a1 (a2 + v3_13) S_13 (fun r4 S3 => wp_X3_putGlimpse o v3_13 r4 S3 (fun S5 => (∀ t6 : Int32, t6 = v3_13 + 1 → wl_X3_becomeBehind_13 o a1 a2 K_13 fu_13 t6 S5)))))
def wp_X3_becomeBehind (o : Nat) (a1 : Nat) (a2 : Int32) (S : St) (Q : St → Prop) : Prop := (isPn o ∧ (isPn a1 ∧ wp_X3_become o (0 : Int32) ((gI S a1 3) - a2) S (fun S1 => (∃ m_13 : Nat, wl_X3_becomeBehind_13 o a1 a2 (fun e3_7 S8 => Q S8) m_13 (0 : Int32) S1))))
set_option maxHeartbeats 4000000 in
set_option maxRecDepth 100000 in
theorem c_X3_becomeBehind (l : Launch) (D : va_G) (kA : Nat → ClassId) (ly : Nat → Nat) (n : List Nat) (hn : ∀ c, c < 59 → c ∈ n) (A : Nat → Prop) (o : Nat) (a1 : Nat) (a2 : Int32) : Cv l yX3_becomeBehind wsX3_becomeBehind 2 45 (Gp D (Ec kA ly) ly n A kA) A [.ref (ly o), .ref (ly a1), .int a2] (wp_X3_becomeBehind o a1 a2) := by
  intro S Q
  refine Met.ofW (cc := cX3_becomeBehind) (maxL := 4) (ret := none) (by decide) rfl ?_
  intro p e s m args below meth c s₁ B hml hv
  obtain ⟨rfl, ⟨hP, hD, hK, hN⟩, hw⟩ := hv
  have hx := B.exec
  have hb := B.bytes
  have hr := B.returns
  have hts := atoms_spec (ws := wsX3_becomeBehind) B.pre
  have hown : s.vm.findClass RX3 = some m.cls := findClass_of_methodNamed B.named
  have hlocks := B.notSynchronized
  have hH : Hp D (Ec kA ly) ly n A s.heap S s.heap [] := ⟨hP, hD, va_S.rf⟩
  have hiX3 : ∀ w ∈ u_ws RX3 TX3 5, w ∈ wsX3_becomeBehind := by decide +kernel
  have lk0 := hts (.fieldLink RX3 22 "SlowPanes$Pane" "count" "I") (by decide +kernel)
  have hl := lv_entry ([.ref (ly o), .ref (ly a1), .int a2]) (n := 4) (Nat.le_of_ble_eq_true rfl)
  rw [lg_entry_eq]
  generalize (lg_sl ([.ref (ly o), .ref (ly a1), .int a2]) ++ List.replicate (4 - (lg_sl ([.ref (ly o), .ref (ly a1), .int a2])).length) Slot.unset).toArray = ls at hl ⊢
  have hl : lv_has ls 4 [(0, .ref (ly o)), (1, .ref (ly a1)), (2, .int a2)] := hl
  rw [wp_X3_becomeBehind] at hw
  obtain ⟨ho, hw⟩ := hw
  obtain ⟨ha1, hw⟩ := hw
  refine lv_aload_n hx hb dX3_becomeBehind_0 rfl (lv_at hl 0 rfl) ?_
  refine lv_iconst (v := 0) hx hb dX3_becomeBehind_1 (by decide +kernel) ?_
  refine lv_aload_n hx hb dX3_becomeBehind_2 rfl (lv_at hl 1 rfl) ?_
  refine gf_pn_3 hx hb hts hiX3 hown hK hn hH ha1 lk0 dX3_becomeBehind_3 ?_
  refine lv_iload_n hx hb dX3_becomeBehind_6 rfl (lv_at hl 2 rfl) ?_
  refine lv_isub hx hb dX3_becomeBehind_7 ?_
  refine k_aftv (va_runV (As := [.int (0 : Int32), .int ((gI S a1 3) - a2)]) (rest := []) ⟨hx, hb, hml, hown, hts⟩ (c_X3_become l D kA ly n hn A o (0 : Int32) ((gI S a1 3) - a2) S _) (cwV 2 hts gX3_becomeBehind_X3_become rfl rfl rfl (by decide +kernel) ⟨(Nat.le_of_ble_eq_true rfl), (Nat.le_of_ble_eq_true rfl)⟩) ⟨k_blind, (k_recv hK hH (pn_lt hn ho) (Ec_pn ho) rfl), k_pre hK hN hH hw⟩ rfl rfl hl.1 rfl (lv_room (Nat.le_of_ble_eq_true rfl)) dX3_becomeBehind_8 ⟨Nat.le_refl _, Nat.le_refl _⟩) hH (fun S1 H locs hw hH => ?_)
  refine lv_iconst (v := 0) hx hb dX3_becomeBehind_11 (by decide +kernel) ?_
  refine lv_istore_n (lv' := [(3, .int (0 : Int32)), (0, .ref (ly o)), (1, .ref (ly a1)), (2, .int a2)]) hx hb dX3_becomeBehind_12 rfl hl (by decide) rfl (fun ls hl => ?_)
  have L_13 : ∀ (K_13 : Int32 → St → Prop) (hk_13 : ∀ (v3_13 : Int32) (S_13 : St) (H : Heap) (locs : List Loc) (ls : Array Slot), K_13 v3_13 S_13 → Hp D (Ec kA ly) ly n A s.heap S_13 H locs → lv_has ls 4 [(0, .ref (ly o)), (1, .ref (ly a1)), (2, .int a2), (3, .int v3_13)] → W p l e (headSpec wsX3_becomeBehind { frames := 2, cells := 0, slots := 0, locals := 45 }).room s m [.ref (ly o), .ref (ly a1), .int a2].toArray below meth c H locs 0 0 (MQ below (va_Qv Q (Gp D (Ec kA ly) ly n A kA) A) [.ref (ly o), .ref (ly a1), .int a2].toArray s 0 0 A) (F0 m 39 ls [])) (fu_13 : Nat) (v3_13 : Int32) (S_13 : St) (H : Heap) (locs : List Loc) (ls : Array Slot), wl_X3_becomeBehind_13 o a1 a2 K_13 fu_13 v3_13 S_13 → Hp D (Ec kA ly) ly n A s.heap S_13 H locs → lv_has ls 4 [(0, .ref (ly o)), (1, .ref (ly a1)), (2, .int a2), (3, .int v3_13)] → W p l e (headSpec wsX3_becomeBehind { frames := 2, cells := 0, slots := 0, locals := 45 }).room s m [.ref (ly o), .ref (ly a1), .int a2].toArray below meth c H locs 0 0 (MQ below (va_Qv Q (Gp D (Ec kA ly) ly n A kA) A) [.ref (ly o), .ref (ly a1), .int a2].toArray s 0 0 A) (F0 m 13 ls []) := by
    intro K_13 hk_13 fu_13
    induction fu_13 with
    | zero => intro v3_13 S_13 H locs ls hw hH hl; rw [wl_X3_becomeBehind_13] at hw; exact hw.elim
    | succ fu_13 ih_13 =>
      intro v3_13 S_13 H locs ls hw hH hl
      rw [wl_X3_becomeBehind_13] at hw
      refine lv_iload_n hx hb dX3_becomeBehind_13 rfl (lv_at hl 3 rfl) ?_
      refine lv_aload_n hx hb dX3_becomeBehind_14 rfl (lv_at hl 0 rfl) ?_
      refine gf_pn_3 hx hb hts hiX3 hown hK hn hH ho lk0 dX3_becomeBehind_15 ?_
      refine lv_icmp_ge (tgt := 39) hx hb dX3_becomeBehind_18 (by decide) (fun hc2 => ?_) (fun hc2 => ?_)
      · replace hw := hw.1 hc2
        exact hk_13 v3_13 S_13 _ _ ls hw hH (lv_sub hl [0, 1, 2, 3] rfl)
      · replace hw := hw.2 hc2
        refine lv_aload_n hx hb dX3_becomeBehind_21 rfl (lv_at hl 0 rfl) ?_
        refine lv_iload_n hx hb dX3_becomeBehind_22 rfl (lv_at hl 3 rfl) ?_
        refine lv_aload_n hx hb dX3_becomeBehind_23 rfl (lv_at hl 1 rfl) ?_
        refine lv_iload_n hx hb dX3_becomeBehind_24 rfl (lv_at hl 2 rfl) ?_
        refine lv_iload_n hx hb dX3_becomeBehind_25 rfl (lv_at hl 3 rfl) ?_
        refine lv_iadd hx hb dX3_becomeBehind_26 ?_
        refine k_afti (va_runV (As := [.int (a2 + v3_13)]) (rest := [.int v3_13, .ref (ly o)]) ⟨hx, hb, hml, hown, hts⟩ (c_X3_glimpseAt l D kA ly n hn A a1 (a2 + v3_13) S_13 _) (cwV 1 hts gX3_becomeBehind_X3_glimpseAt rfl rfl rfl (by decide +kernel) ⟨(Nat.le_of_ble_eq_true rfl), (Nat.le_of_ble_eq_true rfl)⟩) ⟨k_blind, (k_recv hK hH (pn_lt hn ha1) (Ec_pn ha1) rfl), k_pre hK hN hH hw⟩ rfl rfl hl.1 rfl (lv_room (Nat.le_of_ble_eq_true rfl)) dX3_becomeBehind_27 ⟨Nat.le_refl _, Nat.le_refl _⟩) hH (fun r4 S3 H locs hw hH => ?_)
        refine k_aftv (va_runV (As := [.int v3_13, .int r4]) (rest := []) ⟨hx, hb, hml, hown, hts⟩ (c_X3_putGlimpse l D kA ly n hn A o v3_13 r4 S3 _) (cwV 2 hts gX3_becomeBehind_X3_putGlimpse rfl rfl rfl (by decide +kernel) ⟨(Nat.le_of_ble_eq_true rfl), (Nat.le_of_ble_eq_true rfl)⟩) ⟨k_blind, (k_recv hK hH (pn_lt hn ho) (Ec_pn ho) rfl), k_pre hK hN hH hw⟩ rfl rfl hl.1 rfl (lv_room (Nat.le_of_ble_eq_true rfl)) dX3_becomeBehind_30 ⟨Nat.le_refl _, Nat.le_refl _⟩) hH (fun S5 H locs hw hH => ?_)
        obtain ⟨t6, et6⟩ : ∃ y : Int32, y = v3_13 + 1 := ⟨_, rfl⟩
        replace hw := hw t6 et6
        refine lv_iinc (v := t6) (lv' := [(3, .int t6), (0, .ref (ly o)), (1, .ref (ly a1)), (2, .int a2)]) hx hb dX3_becomeBehind_33 hl (k := 3) rfl (by rw [et6]; rfl) (by decide) rfl (fun ls hl => ?_)
        refine lv_goto (tgt := 13) hx hb dX3_becomeBehind_36 (by decide) ?_
        exact ih_13 t6 S5 _ _ ls hw hH (lv_sub hl [1, 2, 3, 0] rfl)
  obtain ⟨m_13, hw⟩ := hw
  refine L_13 _ (fun e3_7 S8 H locs ls hw hH hl => ?_) m_13 (0 : Int32) S1 _ _ ls hw hH (lv_sub hl [1, 2, 3, 0] rfl)
  exact k_vret hx hb hr hlocks hK hN hH hw dX3_becomeBehind_39
def wl_X3_append_2 (o : Nat) (a1 : Nat) (K_2 : Int32 → St → Prop) : Nat → Int32 → St → Prop
  | 0, _, _ => False
  | fu_2 + 1, v2_2, S_2 => (((gI S_2 a1 3) ≤ v2_2 → K_2 v2_2 S_2) ∧ (¬ (gI S_2 a1 3) ≤ v2_2 → wp_X3_glimpseAt a1 v2_2 S_2 (fun r3 S2 => wp_X3_putGlimpse o ((gI S_2 o 3) + v2_2) r3 S2 (fun S4 => (∀ t5 : Int32, t5 = v2_2 + 1 → wl_X3_append_2 o a1 K_2 fu_2 t5 S4)))))
def wp_X3_append (o : Nat) (a1 : Nat) (S : St) (Q : St → Prop) : Prop := (isPn o ∧ (isPn a1 ∧ (∃ m_2 : Nat, wl_X3_append_2 o a1 (fun e2_6 S7 => (∀ S8 : St, S8 = sI S7 o 3 ((gI S7 o 3) + (gI S7 a1 3)) → Q S8)) m_2 (0 : Int32) S)))
set_option maxHeartbeats 4000000 in
set_option maxRecDepth 100000 in
theorem c_X3_append (l : Launch) (D : va_G) (kA : Nat → ClassId) (ly : Nat → Nat) (n : List Nat) (hn : ∀ c, c < 59 → c ∈ n) (A : Nat → Prop) (o : Nat) (a1 : Nat) : Cv l yX3_append wsX3_append 1 22 (Gp D (Ec kA ly) ly n A kA) A [.ref (ly o), .ref (ly a1)] (wp_X3_append o a1) := by
  intro S Q
  refine Met.ofW (cc := cX3_append) (maxL := 3) (ret := none) (by decide) rfl ?_
  intro p e s m args below meth c s₁ B hml hv
  obtain ⟨rfl, ⟨hP, hD, hK, hN⟩, hw⟩ := hv
  have hx := B.exec
  have hb := B.bytes
  have hr := B.returns
  have hts := atoms_spec (ws := wsX3_append) B.pre
  have hown : s.vm.findClass RX3 = some m.cls := findClass_of_methodNamed B.named
  have hlocks := B.notSynchronized
  have hH : Hp D (Ec kA ly) ly n A s.heap S s.heap [] := ⟨hP, hD, va_S.rf⟩
  have hiX3 : ∀ w ∈ u_ws RX3 TX3 5, w ∈ wsX3_append := by decide +kernel
  have lk0 := hts (.fieldLink RX3 22 "SlowPanes$Pane" "count" "I") (by decide +kernel)
  have hl := lv_entry ([.ref (ly o), .ref (ly a1)]) (n := 3) (Nat.le_of_ble_eq_true rfl)
  rw [lg_entry_eq]
  generalize (lg_sl ([.ref (ly o), .ref (ly a1)]) ++ List.replicate (3 - (lg_sl ([.ref (ly o), .ref (ly a1)])).length) Slot.unset).toArray = ls at hl ⊢
  have hl : lv_has ls 3 [(0, .ref (ly o)), (1, .ref (ly a1))] := hl
  rw [wp_X3_append] at hw
  obtain ⟨ho, hw⟩ := hw
  obtain ⟨ha1, hw⟩ := hw
  refine lv_iconst (v := 0) hx hb dX3_append_0 (by decide +kernel) ?_
  refine lv_istore_n (lv' := [(2, .int (0 : Int32)), (0, .ref (ly o)), (1, .ref (ly a1))]) hx hb dX3_append_1 rfl hl (by decide) rfl (fun ls hl => ?_)
  have L_2 : ∀ (K_2 : Int32 → St → Prop) (hk_2 : ∀ (v2_2 : Int32) (S_2 : St) (H : Heap) (locs : List Loc) (ls : Array Slot), K_2 v2_2 S_2 → Hp D (Ec kA ly) ly n A s.heap S_2 H locs → lv_has ls 3 [(0, .ref (ly o)), (1, .ref (ly a1)), (2, .int v2_2)] → W p l e (headSpec wsX3_append { frames := 1, cells := 0, slots := 0, locals := 22 }).room s m [.ref (ly o), .ref (ly a1)].toArray below meth c H locs 0 0 (MQ below (va_Qv Q (Gp D (Ec kA ly) ly n A kA) A) [.ref (ly o), .ref (ly a1)].toArray s 0 0 A) (F0 m 31 ls [])) (fu_2 : Nat) (v2_2 : Int32) (S_2 : St) (H : Heap) (locs : List Loc) (ls : Array Slot), wl_X3_append_2 o a1 K_2 fu_2 v2_2 S_2 → Hp D (Ec kA ly) ly n A s.heap S_2 H locs → lv_has ls 3 [(0, .ref (ly o)), (1, .ref (ly a1)), (2, .int v2_2)] → W p l e (headSpec wsX3_append { frames := 1, cells := 0, slots := 0, locals := 22 }).room s m [.ref (ly o), .ref (ly a1)].toArray below meth c H locs 0 0 (MQ below (va_Qv Q (Gp D (Ec kA ly) ly n A kA) A) [.ref (ly o), .ref (ly a1)].toArray s 0 0 A) (F0 m 2 ls []) := by
    intro K_2 hk_2 fu_2
    induction fu_2 with
    | zero => intro v2_2 S_2 H locs ls hw hH hl; rw [wl_X3_append_2] at hw; exact hw.elim
    | succ fu_2 ih_2 =>
      intro v2_2 S_2 H locs ls hw hH hl
      rw [wl_X3_append_2] at hw
      refine lv_iload_n hx hb dX3_append_2 rfl (lv_at hl 2 rfl) ?_
      refine lv_aload_n hx hb dX3_append_3 rfl (lv_at hl 1 rfl) ?_
      refine gf_pn_3 hx hb hts hiX3 hown hK hn hH ha1 lk0 dX3_append_4 ?_
      refine lv_icmp_ge (tgt := 31) hx hb dX3_append_7 (by decide) (fun hc1 => ?_) (fun hc1 => ?_)
      · replace hw := hw.1 hc1
        exact hk_2 v2_2 S_2 _ _ ls hw hH (lv_sub hl [0, 1, 2] rfl)
      · replace hw := hw.2 hc1
        refine lv_aload_n hx hb dX3_append_10 rfl (lv_at hl 0 rfl) ?_
        refine lv_aload_n hx hb dX3_append_11 rfl (lv_at hl 0 rfl) ?_
        refine gf_pn_3 hx hb hts hiX3 hown hK hn hH ho lk0 dX3_append_12 ?_
        refine lv_iload_n hx hb dX3_append_15 rfl (lv_at hl 2 rfl) ?_
        refine lv_iadd hx hb dX3_append_16 ?_
        refine lv_aload_n hx hb dX3_append_17 rfl (lv_at hl 1 rfl) ?_
        refine lv_iload_n hx hb dX3_append_18 rfl (lv_at hl 2 rfl) ?_
        refine k_afti (va_runV (As := [.int v2_2]) (rest := [.int ((gI S_2 o 3) + v2_2), .ref (ly o)]) ⟨hx, hb, hml, hown, hts⟩ (c_X3_glimpseAt l D kA ly n hn A a1 v2_2 S_2 _) (cwV 1 hts gX3_append_X3_glimpseAt rfl rfl rfl (by decide +kernel) ⟨(Nat.le_of_ble_eq_true rfl), (Nat.le_of_ble_eq_true rfl)⟩) ⟨k_blind, (k_recv hK hH (pn_lt hn ha1) (Ec_pn ha1) rfl), k_pre hK hN hH hw⟩ rfl rfl hl.1 rfl (lv_room (Nat.le_of_ble_eq_true rfl)) dX3_append_19 ⟨Nat.le_refl _, Nat.le_refl _⟩) hH (fun r3 S2 H locs hw hH => ?_)
        refine k_aftv (va_runV (As := [.int ((gI S_2 o 3) + v2_2), .int r3]) (rest := []) ⟨hx, hb, hml, hown, hts⟩ (c_X3_putGlimpse l D kA ly n hn A o ((gI S_2 o 3) + v2_2) r3 S2 _) (cwV 2 hts gX3_append_X3_putGlimpse rfl rfl rfl (by decide +kernel) ⟨(Nat.le_of_ble_eq_true rfl), (Nat.le_of_ble_eq_true rfl)⟩) ⟨k_blind, (k_recv hK hH (pn_lt hn ho) (Ec_pn ho) rfl), k_pre hK hN hH hw⟩ rfl rfl hl.1 rfl (lv_room (Nat.le_of_ble_eq_true rfl)) dX3_append_22 ⟨Nat.le_refl _, Nat.le_refl _⟩) hH (fun S4 H locs hw hH => ?_)
        obtain ⟨t5, et5⟩ : ∃ y : Int32, y = v2_2 + 1 := ⟨_, rfl⟩
        replace hw := hw t5 et5
        refine lv_iinc (v := t5) (lv' := [(2, .int t5), (0, .ref (ly o)), (1, .ref (ly a1))]) hx hb dX3_append_25 hl (k := 2) rfl (by rw [et5]; rfl) (by decide) rfl (fun ls hl => ?_)
        refine lv_goto (tgt := 2) hx hb dX3_append_28 (by decide) ?_
        exact ih_2 t5 S4 _ _ ls hw hH (lv_sub hl [1, 2, 0] rfl)
  obtain ⟨m_2, hw⟩ := hw
  refine L_2 _ (fun e2_6 S7 H locs ls hw hH hl => ?_) m_2 (0 : Int32) S _ _ ls hw hH (lv_sub hl [1, 2, 0] rfl)
  refine lv_aload_n hx hb dX3_append_31 rfl (lv_at hl 0 rfl) ?_
  refine lv_dup hx hb dX3_append_32 rfl ?_
  refine gf_pn_3 hx hb hts hiX3 hown hK hn hH ho lk0 dX3_append_33 ?_
  refine lv_aload_n hx hb dX3_append_36 rfl (lv_at hl 1 rfl) ?_
  refine gf_pn_3 hx hb hts hiX3 hown hK hn hH ha1 lk0 dX3_append_37 ?_
  refine lv_iadd hx hb dX3_append_40 ?_
  refine pf_pn_3 hx hb hts hiX3 hown hK hn hH ho lk0 dX3_append_41 (fun S8 H locs eS8 hH => ?_)
  replace hw := hw S8 eS8
  exact k_vret hx hb hr hlocks hK hN hH hw dX3_append_44
def wl_X3_turnAbout_9 (o : Nat) (K_9 : Int32 → Int32 → St → Prop) : Nat → Int32 → Int32 → St → Prop
  | 0, _, _, _ => False
  | fu_9 + 1, v1_9, v2_9, S_9 => ((v2_9 ≤ v1_9 → K_9 v1_9 v2_9 S_9) ∧ (¬ v2_9 ≤ v1_9 → wp_X3_glimpseAt o v1_9 S_9 (fun r4 S3 => wp_X3_glimpseAt o v2_9 S3 (fun r6 S5 => wp_X3_putGlimpse o v1_9 r6 S5 (fun S7 => wp_X3_putGlimpse o v2_9 r4 S7 (fun S8 => (∀ t9 : Int32, t9 = v1_9 + 1 → (∀ t10 : Int32, t10 = v2_9 + (-1 : Int32) → wl_X3_turnAbout_9 o K_9 fu_9 t9 t10 S8))))))))
def wp_X3_turnAbout (o : Nat) (S : St) (Q : St → Prop) : Prop := (isPn o ∧ (∀ t1 : Int32, t1 = ((gI S o 3) - (1 : Int32)) → (∃ m_9 : Nat, wl_X3_turnAbout_9 o (fun e1_11 e2_12 S13 => Q S13) m_9 (0 : Int32) t1 S)))
set_option maxHeartbeats 4000000 in
set_option maxRecDepth 100000 in
theorem c_X3_turnAbout (l : Launch) (D : va_G) (kA : Nat → ClassId) (ly : Nat → Nat) (n : List Nat) (hn : ∀ c, c < 59 → c ∈ n) (A : Nat → Prop) (o : Nat) : Cv l yX3_turnAbout wsX3_turnAbout 1 22 (Gp D (Ec kA ly) ly n A kA) A [.ref (ly o)] (wp_X3_turnAbout o) := by
  intro S Q
  refine Met.ofW (cc := cX3_turnAbout) (maxL := 4) (ret := none) (by decide) rfl ?_
  intro p e s m args below meth c s₁ B hml hv
  obtain ⟨rfl, ⟨hP, hD, hK, hN⟩, hw⟩ := hv
  have hx := B.exec
  have hb := B.bytes
  have hr := B.returns
  have hts := atoms_spec (ws := wsX3_turnAbout) B.pre
  have hown : s.vm.findClass RX3 = some m.cls := findClass_of_methodNamed B.named
  have hlocks := B.notSynchronized
  have hH : Hp D (Ec kA ly) ly n A s.heap S s.heap [] := ⟨hP, hD, va_S.rf⟩
  have hiX3 : ∀ w ∈ u_ws RX3 TX3 5, w ∈ wsX3_turnAbout := by decide +kernel
  have lk0 := hts (.fieldLink RX3 22 "SlowPanes$Pane" "count" "I") (by decide +kernel)
  have hl := lv_entry ([.ref (ly o)]) (n := 4) (Nat.le_of_ble_eq_true rfl)
  rw [lg_entry_eq]
  generalize (lg_sl ([.ref (ly o)]) ++ List.replicate (4 - (lg_sl ([.ref (ly o)])).length) Slot.unset).toArray = ls at hl ⊢
  have hl : lv_has ls 4 [(0, .ref (ly o))] := hl
  rw [wp_X3_turnAbout] at hw
  obtain ⟨ho, hw⟩ := hw
  refine lv_iconst (v := 0) hx hb dX3_turnAbout_0 (by decide +kernel) ?_
  refine lv_istore_n (lv' := [(1, .int (0 : Int32)), (0, .ref (ly o))]) hx hb dX3_turnAbout_1 rfl hl (by decide) rfl (fun ls hl => ?_)
  refine lv_aload_n hx hb dX3_turnAbout_2 rfl (lv_at hl 1 rfl) ?_
  refine gf_pn_3 hx hb hts hiX3 hown hK hn hH ho lk0 dX3_turnAbout_3 ?_
  refine lv_iconst (v := 1) hx hb dX3_turnAbout_6 (by decide +kernel) ?_
  refine lv_isub hx hb dX3_turnAbout_7 ?_
  refine lv_topi (fun t1 et1 => ?_)
  replace hw := hw t1 et1
  refine lv_istore_n (lv' := [(2, .int t1), (1, .int (0 : Int32)), (0, .ref (ly o))]) hx hb dX3_turnAbout_8 rfl hl (by decide) rfl (fun ls hl => ?_)
  have L_9 : ∀ (K_9 : Int32 → Int32 → St → Prop) (hk_9 : ∀ (v1_9 : Int32) (v2_9 : Int32) (S_9 : St) (H : Heap) (locs : List Loc) (ls : Array Slot), K_9 v1_9 v2_9 S_9 → Hp D (Ec kA ly) ly n A s.heap S_9 H locs → lv_has ls 4 [(0, .ref (ly o)), (1, .int v1_9), (2, .int v2_9)] → W p l e (headSpec wsX3_turnAbout { frames := 1, cells := 0, slots := 0, locals := 22 }).room s m [.ref (ly o)].toArray below meth c H locs 0 0 (MQ below (va_Qv Q (Gp D (Ec kA ly) ly n A kA) A) [.ref (ly o)].toArray s 0 0 A) (F0 m 45 ls [])) (fu_9 : Nat) (v1_9 : Int32) (v2_9 : Int32) (S_9 : St) (H : Heap) (locs : List Loc) (ls : Array Slot), wl_X3_turnAbout_9 o K_9 fu_9 v1_9 v2_9 S_9 → Hp D (Ec kA ly) ly n A s.heap S_9 H locs → lv_has ls 4 [(0, .ref (ly o)), (1, .int v1_9), (2, .int v2_9)] → W p l e (headSpec wsX3_turnAbout { frames := 1, cells := 0, slots := 0, locals := 22 }).room s m [.ref (ly o)].toArray below meth c H locs 0 0 (MQ below (va_Qv Q (Gp D (Ec kA ly) ly n A kA) A) [.ref (ly o)].toArray s 0 0 A) (F0 m 9 ls []) := by
    intro K_9 hk_9 fu_9
    induction fu_9 with
    | zero => intro v1_9 v2_9 S_9 H locs ls hw hH hl; rw [wl_X3_turnAbout_9] at hw; exact hw.elim
    | succ fu_9 ih_9 =>
      intro v1_9 v2_9 S_9 H locs ls hw hH hl
      rw [wl_X3_turnAbout_9] at hw
      refine lv_iload_n hx hb dX3_turnAbout_9 rfl (lv_at hl 1 rfl) ?_
      refine lv_iload_n hx hb dX3_turnAbout_10 rfl (lv_at hl 2 rfl) ?_
      refine lv_icmp_ge (tgt := 45) hx hb dX3_turnAbout_11 (by decide) (fun hc2 => ?_) (fun hc2 => ?_)
      · replace hw := hw.1 hc2
        exact hk_9 v1_9 v2_9 S_9 _ _ ls hw hH (lv_sub hl [0, 1, 2] rfl)
      · replace hw := hw.2 hc2
        refine lv_aload_n hx hb dX3_turnAbout_14 rfl (lv_at hl 0 rfl) ?_
        refine lv_iload_n hx hb dX3_turnAbout_15 rfl (lv_at hl 1 rfl) ?_
        refine k_afti (va_runV (As := [.int v1_9]) (rest := []) ⟨hx, hb, hml, hown, hts⟩ (c_X3_glimpseAt l D kA ly n hn A o v1_9 S_9 _) (cwV 1 hts gX3_turnAbout_X3_glimpseAt rfl rfl rfl (by decide +kernel) ⟨(Nat.le_of_ble_eq_true rfl), (Nat.le_of_ble_eq_true rfl)⟩) ⟨k_blind, (k_recv hK hH (pn_lt hn ho) (Ec_pn ho) rfl), k_pre hK hN hH hw⟩ rfl rfl hl.1 rfl (lv_room (Nat.le_of_ble_eq_true rfl)) dX3_turnAbout_16 ⟨Nat.le_refl _, Nat.le_refl _⟩) hH (fun r4 S3 H locs hw hH => ?_)
        refine lv_istore_n (lv' := [(3, .int r4), (0, .ref (ly o)), (1, .int v1_9), (2, .int v2_9)]) hx hb dX3_turnAbout_19 rfl hl (by decide) rfl (fun ls hl => ?_)
        refine lv_aload_n hx hb dX3_turnAbout_20 rfl (lv_at hl 1 rfl) ?_
        refine lv_iload_n hx hb dX3_turnAbout_21 rfl (lv_at hl 2 rfl) ?_
        refine lv_aload_n hx hb dX3_turnAbout_22 rfl (lv_at hl 1 rfl) ?_
        refine lv_iload_n hx hb dX3_turnAbout_23 rfl (lv_at hl 3 rfl) ?_
        refine k_afti (va_runV (As := [.int v2_9]) (rest := [.int v1_9, .ref (ly o)]) ⟨hx, hb, hml, hown, hts⟩ (c_X3_glimpseAt l D kA ly n hn A o v2_9 S3 _) (cwV 1 hts gX3_turnAbout_X3_glimpseAt rfl rfl rfl (by decide +kernel) ⟨(Nat.le_of_ble_eq_true rfl), (Nat.le_of_ble_eq_true rfl)⟩) ⟨k_blind, (k_recv hK hH (pn_lt hn ho) (Ec_pn ho) rfl), k_pre hK hN hH hw⟩ rfl rfl hl.1 rfl (lv_room (Nat.le_of_ble_eq_true rfl)) dX3_turnAbout_24 ⟨Nat.le_refl _, Nat.le_refl _⟩) hH (fun r6 S5 H locs hw hH => ?_)
        refine k_aftv (va_runV (As := [.int v1_9, .int r6]) (rest := []) ⟨hx, hb, hml, hown, hts⟩ (c_X3_putGlimpse l D kA ly n hn A o v1_9 r6 S5 _) (cwV 2 hts gX3_turnAbout_X3_putGlimpse rfl rfl rfl (by decide +kernel) ⟨(Nat.le_of_ble_eq_true rfl), (Nat.le_of_ble_eq_true rfl)⟩) ⟨k_blind, (k_recv hK hH (pn_lt hn ho) (Ec_pn ho) rfl), k_pre hK hN hH hw⟩ rfl rfl hl.1 rfl (lv_room (Nat.le_of_ble_eq_true rfl)) dX3_turnAbout_27 ⟨Nat.le_refl _, Nat.le_refl _⟩) hH (fun S7 H locs hw hH => ?_)
        refine lv_aload_n hx hb dX3_turnAbout_30 rfl (lv_at hl 1 rfl) ?_
        refine lv_iload_n hx hb dX3_turnAbout_31 rfl (lv_at hl 3 rfl) ?_
        refine lv_iload_n hx hb dX3_turnAbout_32 rfl (lv_at hl 0 rfl) ?_
        refine k_aftv (va_runV (As := [.int v2_9, .int r4]) (rest := []) ⟨hx, hb, hml, hown, hts⟩ (c_X3_putGlimpse l D kA ly n hn A o v2_9 r4 S7 _) (cwV 2 hts gX3_turnAbout_X3_putGlimpse rfl rfl rfl (by decide +kernel) ⟨(Nat.le_of_ble_eq_true rfl), (Nat.le_of_ble_eq_true rfl)⟩) ⟨k_blind, (k_recv hK hH (pn_lt hn ho) (Ec_pn ho) rfl), k_pre hK hN hH hw⟩ rfl rfl hl.1 rfl (lv_room (Nat.le_of_ble_eq_true rfl)) dX3_turnAbout_33 ⟨Nat.le_refl _, Nat.le_refl _⟩) hH (fun S8 H locs hw hH => ?_)
        obtain ⟨t9, et9⟩ : ∃ y : Int32, y = v1_9 + 1 := ⟨_, rfl⟩
        replace hw := hw t9 et9
        refine lv_iinc (v := t9) (lv' := [(1, .int t9), (3, .int r4), (0, .ref (ly o)), (2, .int v2_9)]) hx hb dX3_turnAbout_36 hl (k := 2) rfl (by rw [et9]; rfl) (by decide) rfl (fun ls hl => ?_)
        obtain ⟨t10, et10⟩ : ∃ y : Int32, y = v2_9 + (-1 : Int32) := ⟨_, rfl⟩
        replace hw := hw t10 et10
        refine lv_iinc (v := t10) (lv' := [(2, .int t10), (1, .int t9), (3, .int r4), (0, .ref (ly o))]) hx hb dX3_turnAbout_39 hl (k := 3) rfl (by rw [et10]; rfl) (by decide) rfl (fun ls hl => ?_)
        refine lv_goto (tgt := 9) hx hb dX3_turnAbout_42 (by decide) ?_
        exact ih_9 t9 t10 S8 _ _ ls hw hH (lv_sub hl [3, 1, 0] rfl)
  obtain ⟨m_9, hw⟩ := hw
  refine L_9 _ (fun e1_11 e2_12 S13 H locs ls hw hH hl => ?_) m_9 (0 : Int32) t1 S _ _ ls hw hH (lv_sub hl [2, 1, 0] rfl)
  exact k_vret hx hb hr hlocks hK hN hH hw dX3_turnAbout_45
def wp_X3_placeTold (o : Nat) (S : St) (Q : Int32 → St → Prop) : Prop := (isPn o ∧ (((gI S o 4) = (4 : Int32) → Q (-9 : Int32) S) ∧ (¬ (gI S o 4) = (4 : Int32) → Q (gI S o 4) S)))
set_option maxHeartbeats 4000000 in
set_option maxRecDepth 100000 in
theorem c_X3_placeTold (l : Launch) (D : va_G) (kA : Nat → ClassId) (ly : Nat → Nat) (n : List Nat) (hn : ∀ c, c < 59 → c ∈ n) (A : Nat → Prop) (o : Nat) : Ci l yX3_placeTold wsX3_placeTold 0 0 (Gp D (Ec kA ly) ly n A kA) A [.ref (ly o)] (wp_X3_placeTold o) := by
  intro S Q
  refine Met.ofW (cc := cX3_placeTold) (maxL := 1) (ret := (some .int)) (by decide) rfl ?_
  intro p e s m args below meth c s₁ B hml hv
  obtain ⟨rfl, ⟨hP, hD, hK, hN⟩, hw⟩ := hv
  have hx := B.exec
  have hb := B.bytes
  have hr := B.returns
  have hts := atoms_spec (ws := wsX3_placeTold) B.pre
  have hown : s.vm.findClass RX3 = some m.cls := findClass_of_methodNamed B.named
  have hlocks := B.notSynchronized
  have hH : Hp D (Ec kA ly) ly n A s.heap S s.heap [] := ⟨hP, hD, va_S.rf⟩
  have hiX3 : ∀ w ∈ u_ws RX3 TX3 5, w ∈ wsX3_placeTold := by decide +kernel
  have lk0 := hts (.fieldLink RX3 25 "SlowPanes$Pane" "place" "I") (by decide +kernel)
  have hl := lv_entry ([.ref (ly o)]) (n := 1) (Nat.le_of_ble_eq_true rfl)
  rw [lg_entry_eq]
  generalize (lg_sl ([.ref (ly o)]) ++ List.replicate (1 - (lg_sl ([.ref (ly o)])).length) Slot.unset).toArray = ls at hl ⊢
  have hl : lv_has ls 1 [(0, .ref (ly o))] := hl
  rw [wp_X3_placeTold] at hw
  obtain ⟨ho, hw⟩ := hw
  refine lv_aload_n hx hb dX3_placeTold_0 rfl (lv_at hl 0 rfl) ?_
  refine gf_pn_4 hx hb hts hiX3 hown hK hn hH ho lk0 dX3_placeTold_1 ?_
  refine lv_iconst (v := 4) hx hb dX3_placeTold_4 (by decide +kernel) ?_
  refine lv_icmp_ne (tgt := 13) hx hb dX3_placeTold_5 (by decide) (fun hc1 => ?_) (fun hc1 => ?_)
  · replace hw := hw.2 hc1
    refine lv_aload_n hx hb dX3_placeTold_13 rfl (lv_at hl 0 rfl) ?_
    refine gf_pn_4 hx hb hts hiX3 hown hK hn hH ho lk0 dX3_placeTold_14 ?_
    exact k_iret hx hb hr hlocks hK hN hH hw dX3_placeTold_17
  · replace hw := hw.1 hc1
    refine lv_bipush (v := -9) hx hb dX3_placeTold_8 (by decide +kernel) ?_
    refine lv_goto (tgt := 17) hx hb dX3_placeTold_10 (by decide) ?_
    exact k_iret hx hb hr hlocks hK hN hH hw dX3_placeTold_17
def wp_X3_last (o : Nat) (S : St) (Q : Int32 → St → Prop) : Prop := (isPn o ∧ wp_X3_glimpseAt o ((gI S o 3) - (1 : Int32)) S (fun r2 S1 => Q r2 S1))
set_option maxHeartbeats 4000000 in
set_option maxRecDepth 100000 in
theorem c_X3_last (l : Launch) (D : va_G) (kA : Nat → ClassId) (ly : Nat → Nat) (n : List Nat) (hn : ∀ c, c < 59 → c ∈ n) (A : Nat → Prop) (o : Nat) : Ci l yX3_last wsX3_last 1 21 (Gp D (Ec kA ly) ly n A kA) A [.ref (ly o)] (wp_X3_last o) := by
  intro S Q
  refine Met.ofW (cc := cX3_last) (maxL := 1) (ret := (some .int)) (by decide) rfl ?_
  intro p e s m args below meth c s₁ B hml hv
  obtain ⟨rfl, ⟨hP, hD, hK, hN⟩, hw⟩ := hv
  have hx := B.exec
  have hb := B.bytes
  have hr := B.returns
  have hts := atoms_spec (ws := wsX3_last) B.pre
  have hown : s.vm.findClass RX3 = some m.cls := findClass_of_methodNamed B.named
  have hlocks := B.notSynchronized
  have hH : Hp D (Ec kA ly) ly n A s.heap S s.heap [] := ⟨hP, hD, va_S.rf⟩
  have hiX3 : ∀ w ∈ u_ws RX3 TX3 5, w ∈ wsX3_last := by decide +kernel
  have lk0 := hts (.fieldLink RX3 22 "SlowPanes$Pane" "count" "I") (by decide +kernel)
  have hl := lv_entry ([.ref (ly o)]) (n := 1) (Nat.le_of_ble_eq_true rfl)
  rw [lg_entry_eq]
  generalize (lg_sl ([.ref (ly o)]) ++ List.replicate (1 - (lg_sl ([.ref (ly o)])).length) Slot.unset).toArray = ls at hl ⊢
  have hl : lv_has ls 1 [(0, .ref (ly o))] := hl
  rw [wp_X3_last] at hw
  obtain ⟨ho, hw⟩ := hw
  refine lv_aload_n hx hb dX3_last_0 rfl (lv_at hl 0 rfl) ?_
  refine lv_aload_n hx hb dX3_last_1 rfl (lv_at hl 0 rfl) ?_
  refine gf_pn_3 hx hb hts hiX3 hown hK hn hH ho lk0 dX3_last_2 ?_
  refine lv_iconst (v := 1) hx hb dX3_last_5 (by decide +kernel) ?_
  refine lv_isub hx hb dX3_last_6 ?_
  refine k_afti (va_runV (As := [.int ((gI S o 3) - (1 : Int32))]) (rest := []) ⟨hx, hb, hml, hown, hts⟩ (c_X3_glimpseAt l D kA ly n hn A o ((gI S o 3) - (1 : Int32)) S _) (cwV 1 hts gX3_last_X3_glimpseAt rfl rfl rfl (by decide +kernel) ⟨(Nat.le_of_ble_eq_true rfl), (Nat.le_of_ble_eq_true rfl)⟩) ⟨k_blind, (k_recv hK hH (pn_lt hn ho) (Ec_pn ho) rfl), k_pre hK hN hH hw⟩ rfl rfl hl.1 rfl (lv_room (Nat.le_of_ble_eq_true rfl)) dX3_last_7 ⟨Nat.le_refl _, Nat.le_refl _⟩) hH (fun r2 S1 H locs hw hH => ?_)
  exact k_iret hx hb hr hlocks hK hN hH hw dX3_last_10
def wp_X3_aheadOfLast (o : Nat) (S : St) (Q : Int32 → St → Prop) : Prop := (isPn o ∧ (((2 : Int32) ≤ (gI S o 3) → wp_X3_glimpseAt o ((gI S o 3) - (2 : Int32)) S (fun r3 S2 => Q r3 S2)) ∧ (¬ (2 : Int32) ≤ (gI S o 3) → Q (-9 : Int32) S)))
set_option maxHeartbeats 4000000 in
set_option maxRecDepth 100000 in
theorem c_X3_aheadOfLast (l : Launch) (D : va_G) (kA : Nat → ClassId) (ly : Nat → Nat) (n : List Nat) (hn : ∀ c, c < 59 → c ∈ n) (A : Nat → Prop) (o : Nat) : Ci l yX3_aheadOfLast wsX3_aheadOfLast 1 21 (Gp D (Ec kA ly) ly n A kA) A [.ref (ly o)] (wp_X3_aheadOfLast o) := by
  intro S Q
  refine Met.ofW (cc := cX3_aheadOfLast) (maxL := 1) (ret := (some .int)) (by decide) rfl ?_
  intro p e s m args below meth c s₁ B hml hv
  obtain ⟨rfl, ⟨hP, hD, hK, hN⟩, hw⟩ := hv
  have hx := B.exec
  have hb := B.bytes
  have hr := B.returns
  have hts := atoms_spec (ws := wsX3_aheadOfLast) B.pre
  have hown : s.vm.findClass RX3 = some m.cls := findClass_of_methodNamed B.named
  have hlocks := B.notSynchronized
  have hH : Hp D (Ec kA ly) ly n A s.heap S s.heap [] := ⟨hP, hD, va_S.rf⟩
  have hiX3 : ∀ w ∈ u_ws RX3 TX3 5, w ∈ wsX3_aheadOfLast := by decide +kernel
  have lk0 := hts (.fieldLink RX3 22 "SlowPanes$Pane" "count" "I") (by decide +kernel)
  have hl := lv_entry ([.ref (ly o)]) (n := 1) (Nat.le_of_ble_eq_true rfl)
  rw [lg_entry_eq]
  generalize (lg_sl ([.ref (ly o)]) ++ List.replicate (1 - (lg_sl ([.ref (ly o)])).length) Slot.unset).toArray = ls at hl ⊢
  have hl : lv_has ls 1 [(0, .ref (ly o))] := hl
  rw [wp_X3_aheadOfLast] at hw
  obtain ⟨ho, hw⟩ := hw
  refine lv_aload_n hx hb dX3_aheadOfLast_0 rfl (lv_at hl 0 rfl) ?_
  refine gf_pn_3 hx hb hts hiX3 hown hK hn hH ho lk0 dX3_aheadOfLast_1 ?_
  refine lv_iconst (v := 2) hx hb dX3_aheadOfLast_4 (by decide +kernel) ?_
  refine lv_icmp_ge (tgt := 13) hx hb dX3_aheadOfLast_5 (by decide) (fun hc1 => ?_) (fun hc1 => ?_)
  · replace hw := hw.1 hc1
    refine lv_aload_n hx hb dX3_aheadOfLast_13 rfl (lv_at hl 0 rfl) ?_
    refine lv_aload_n hx hb dX3_aheadOfLast_14 rfl (lv_at hl 0 rfl) ?_
    refine gf_pn_3 hx hb hts hiX3 hown hK hn hH ho lk0 dX3_aheadOfLast_15 ?_
    refine lv_iconst (v := 2) hx hb dX3_aheadOfLast_18 (by decide +kernel) ?_
    refine lv_isub hx hb dX3_aheadOfLast_19 ?_
    refine k_afti (va_runV (As := [.int ((gI S o 3) - (2 : Int32))]) (rest := []) ⟨hx, hb, hml, hown, hts⟩ (c_X3_glimpseAt l D kA ly n hn A o ((gI S o 3) - (2 : Int32)) S _) (cwV 1 hts gX3_aheadOfLast_X3_glimpseAt rfl rfl rfl (by decide +kernel) ⟨(Nat.le_of_ble_eq_true rfl), (Nat.le_of_ble_eq_true rfl)⟩) ⟨k_blind, (k_recv hK hH (pn_lt hn ho) (Ec_pn ho) rfl), k_pre hK hN hH hw⟩ rfl rfl hl.1 rfl (lv_room (Nat.le_of_ble_eq_true rfl)) dX3_aheadOfLast_20 ⟨Nat.le_refl _, Nat.le_refl _⟩) hH (fun r3 S2 H locs hw hH => ?_)
    exact k_iret hx hb hr hlocks hK hN hH hw dX3_aheadOfLast_23
  · replace hw := hw.2 hc1
    refine lv_bipush (v := -9) hx hb dX3_aheadOfLast_8 (by decide +kernel) ?_
    refine lv_goto (tgt := 23) hx hb dX3_aheadOfLast_10 (by decide) ?_
    exact k_iret hx hb hr hlocks hK hN hH hw dX3_aheadOfLast_23
def wp_X3_movesOn (o : Nat) (a1 : Int32) (S : St) (Q : Int32 → St → Prop) : Prop := (isPn o ∧ (((gI S o 2) = 1 → (((a1 - a1 / (2 : Int32) * (2 : Int32)) = 0 → Q (1 : Int32) S) ∧ (¬ (a1 - a1 / (2 : Int32) * (2 : Int32)) = 0 → Q (0 : Int32) S))) ∧ (¬ (gI S o 2) = 1 → (((gI S o 2) = 2 → (((a1 - a1 / (4 : Int32) * (4 : Int32)) = 0 → Q (1 : Int32) S) ∧ (¬ (a1 - a1 / (4 : Int32) * (4 : Int32)) = 0 → Q (0 : Int32) S))) ∧ (¬ (gI S o 2) = 2 → Q (1 : Int32) S)))))
set_option maxHeartbeats 4000000 in
set_option maxRecDepth 100000 in
theorem c_X3_movesOn (l : Launch) (D : va_G) (kA : Nat → ClassId) (ly : Nat → Nat) (n : List Nat) (hn : ∀ c, c < 59 → c ∈ n) (A : Nat → Prop) (o : Nat) (a1 : Int32) : Ci l yX3_movesOn wsX3_movesOn 0 0 (Gp D (Ec kA ly) ly n A kA) A [.ref (ly o), .int a1] (wp_X3_movesOn o a1) := by
  intro S Q
  refine Met.ofW (cc := cX3_movesOn) (maxL := 2) (ret := (some .boolean)) (by decide) rfl ?_
  intro p e s m args below meth c s₁ B hml hv
  obtain ⟨rfl, ⟨hP, hD, hK, hN⟩, hw⟩ := hv
  have hx := B.exec
  have hb := B.bytes
  have hr := B.returns
  have hts := atoms_spec (ws := wsX3_movesOn) B.pre
  have hown : s.vm.findClass RX3 = some m.cls := findClass_of_methodNamed B.named
  have hlocks := B.notSynchronized
  have hH : Hp D (Ec kA ly) ly n A s.heap S s.heap [] := ⟨hP, hD, va_S.rf⟩
  have hiX3 : ∀ w ∈ u_ws RX3 TX3 5, w ∈ wsX3_movesOn := by decide +kernel
  have lk0 := hts (.fieldLink RX3 19 "SlowPanes$Pane" "kind" "I") (by decide +kernel)
  have hl := lv_entry ([.ref (ly o), .int a1]) (n := 2) (Nat.le_of_ble_eq_true rfl)
  rw [lg_entry_eq]
  generalize (lg_sl ([.ref (ly o), .int a1]) ++ List.replicate (2 - (lg_sl ([.ref (ly o), .int a1])).length) Slot.unset).toArray = ls at hl ⊢
  have hl : lv_has ls 2 [(0, .ref (ly o)), (1, .int a1)] := hl
  rw [wp_X3_movesOn] at hw
  obtain ⟨ho, hw⟩ := hw
  refine lv_aload_n hx hb dX3_movesOn_0 rfl (lv_at hl 0 rfl) ?_
  refine gf_pn_2 hx hb hts hiX3 hown hK hn hH ho lk0 dX3_movesOn_1 ?_
  by_cases hc1 : (gI S o 2) = 1
  · replace hw := hw.1 hc1
    refine lv_lookup (tgt := 32) hx hb dX3_movesOn_4 (by decide) (by rw [hc1]; first | done | rfl) (by decide) ?_
    refine lv_iload_n hx hb dX3_movesOn_32 rfl (lv_at hl 1 rfl) ?_
    refine lv_iconst (v := 2) hx hb dX3_movesOn_33 (by decide +kernel) ?_
    refine lv_irem hx hb dX3_movesOn_34 (by decide) ?_
    refine lv_if_ne (tgt := 42) hx hb dX3_movesOn_35 (by decide) (fun hc2 => ?_) (fun hc2 => ?_)
    · replace hw := hw.2 hc2
      refine lv_iconst (v := 0) hx hb dX3_movesOn_42 (by decide +kernel) ?_
      exact k_zret hx hb hr hlocks hK hN hH rfl hw dX3_movesOn_43
    · replace hw := hw.1 hc2
      refine lv_iconst (v := 1) hx hb dX3_movesOn_38 (by decide +kernel) ?_
      refine lv_goto (tgt := 43) hx hb dX3_movesOn_39 (by decide) ?_
      exact k_zret hx hb hr hlocks hK hN hH rfl hw dX3_movesOn_43
  · replace hw := hw.2 hc1
    by_cases hc3 : (gI S o 2) = 2
    · replace hw := hw.1 hc3
      refine lv_lookup (tgt := 44) hx hb dX3_movesOn_4 (by decide) (by rw [hc3]; first | done | rfl) (by decide) ?_
      refine lv_iload_n hx hb dX3_movesOn_44 rfl (lv_at hl 1 rfl) ?_
      refine lv_iconst (v := 4) hx hb dX3_movesOn_45 (by decide +kernel) ?_
      refine lv_irem hx hb dX3_movesOn_46 (by decide) ?_
      refine lv_if_ne (tgt := 54) hx hb dX3_movesOn_47 (by decide) (fun hc4 => ?_) (fun hc4 => ?_)
      · replace hw := hw.2 hc4
        refine lv_iconst (v := 0) hx hb dX3_movesOn_54 (by decide +kernel) ?_
        exact k_zret hx hb hr hlocks hK hN hH rfl hw dX3_movesOn_55
      · replace hw := hw.1 hc4
        refine lv_iconst (v := 1) hx hb dX3_movesOn_50 (by decide +kernel) ?_
        refine lv_goto (tgt := 55) hx hb dX3_movesOn_51 (by decide) ?_
        exact k_zret hx hb hr hlocks hK hN hH rfl hw dX3_movesOn_55
    · replace hw := hw.2 hc3
      refine lv_lookup (tgt := 56) hx hb dX3_movesOn_4 (by decide) (lk_out_1_2 hc1 hc3) (by decide) ?_
      refine lv_iconst (v := 1) hx hb dX3_movesOn_56 (by decide +kernel) ?_
      exact k_zret hx hb hr hlocks hK hN hH rfl hw dX3_movesOn_57
def wp_X11_glimpseOf (a0 : Int32) (a1 : Int32) (S : St) (Q : Int32 → St → Prop) : Prop := Q (((10 : Int32) * a1) + a0) S
set_option maxHeartbeats 4000000 in
set_option maxRecDepth 100000 in
theorem c_X11_glimpseOf (l : Launch) (D : va_G) (kA : Nat → ClassId) (ly : Nat → Nat) (n : List Nat) (hn : ∀ c, c < 59 → c ∈ n) (A : Nat → Prop) (a0 : Int32) (a1 : Int32) : Ci l yX11_glimpseOf wsX11_glimpseOf 0 0 (Gp D (Ec kA ly) ly n A kA) A [.int a0, .int a1] (wp_X11_glimpseOf a0 a1) := by
  intro S Q
  refine Met.ofW (cc := cX11_glimpseOf) (maxL := 2) (ret := (some .int)) (by decide) rfl ?_
  intro p e s m args below meth c s₁ B hml hv
  obtain ⟨rfl, ⟨hP, hD, hK, hN⟩, hw⟩ := hv
  have hx := B.exec
  have hb := B.bytes
  have hr := B.returns
  have hts := atoms_spec (ws := wsX11_glimpseOf) B.pre
  have hown : s.vm.findClass RX11 = some m.cls := findClass_of_methodNamed B.named
  have hlocks := B.notSynchronized
  have hH : Hp D (Ec kA ly) ly n A s.heap S s.heap [] := ⟨hP, hD, va_S.rf⟩
  have hl := lv_entry ([.int a0, .int a1]) (n := 2) (Nat.le_of_ble_eq_true rfl)
  rw [lg_entry_eq]
  generalize (lg_sl ([.int a0, .int a1]) ++ List.replicate (2 - (lg_sl ([.int a0, .int a1])).length) Slot.unset).toArray = ls at hl ⊢
  have hl : lv_has ls 2 [(0, .int a0), (1, .int a1)] := hl
  rw [wp_X11_glimpseOf] at hw
  refine lv_bipush (v := 10) hx hb dX11_glimpseOf_0 (by decide +kernel) ?_
  refine lv_iload_n hx hb dX11_glimpseOf_2 rfl (lv_at hl 1 rfl) ?_
  refine lv_imul hx hb dX11_glimpseOf_3 ?_
  refine lv_iload_n hx hb dX11_glimpseOf_4 rfl (lv_at hl 0 rfl) ?_
  refine lv_iadd hx hb dX11_glimpseOf_5 ?_
  exact k_iret hx hb hr hlocks hK hN hH hw dX11_glimpseOf_6
