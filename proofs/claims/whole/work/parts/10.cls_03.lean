def wp_X10_shownBy (o : Nat) (a1 : Nat) (S : St) (Q : Int32 → St → Prop) : Prop := (isW o ∧ (isPn a1 ∧ wp_X3_last a1 S (fun r2 S1 => wp_X10_viewIn o r2 S1 (fun r4 S3 => (((gI S3 a1 2) = 3 → Q (r4 / (2 : Int32)) S3) ∧ (¬ (gI S3 a1 2) = 3 → (((gI S3 a1 2) = 4 → wp_X3_aheadOfLast a1 S3 (fun r8 S7 => wp_X10_viewIn o r8 S7 (fun r10 S9 => Q ((r4 / (2 : Int32)) + (r10 / (2 : Int32))) S9))) ∧ (¬ (gI S3 a1 2) = 4 → (((gI S3 a1 2) = 5 → wp_X3_last a1 S3 (fun r13 S12 => ((r13 = (-9 : Int32) → Q (0 : Int32) S12) ∧ (¬ r13 = (-9 : Int32) → Q ((99 : Int32) - r4) S12)))) ∧ (¬ (gI S3 a1 2) = 5 → Q r4 S3))))))))))
set_option maxHeartbeats 4000000 in
set_option maxRecDepth 100000 in
theorem c_X10_shownBy (l : Launch) (D : va_G) (kA : Nat → ClassId) (ly : Nat → Nat) (n : List Nat) (hn : ∀ c, c < 59 → c ∈ n) (A : Nat → Prop) (o : Nat) (a1 : Nat) : Ci l yX10_shownBy wsX10_shownBy 2 42 (Gp D (Ec kA ly) ly n A kA) A [.ref (ly o), .ref (ly a1)] (wp_X10_shownBy o a1) := by
  intro S Q
  refine Met.ofW (cc := cX10_shownBy) (maxL := 3) (ret := (some .int)) (by decide) rfl ?_
  intro p e s m args below meth c s₁ B hml hv
  obtain ⟨rfl, ⟨hP, hD, hK, hN⟩, hw⟩ := hv
  have hx := B.exec
  have hb := B.bytes
  have hr := B.returns
  have hts := atoms_spec (ws := wsX10_shownBy) B.pre
  have hown : s.vm.findClass RX10 = some m.cls := findClass_of_methodNamed B.named
  have hlocks := B.notSynchronized
  have hH : Hp D (Ec kA ly) ly n A s.heap S s.heap [] := ⟨hP, hD, va_S.rf⟩
  have hiX3 : ∀ w ∈ u_ws RX3 TX3 5, w ∈ wsX10_shownBy := by decide +kernel
  have lk0 := hts (.fieldLink RX10 69 "SlowPanes$Pane" "kind" "I") (by decide +kernel)
  have hl := lv_entry ([.ref (ly o), .ref (ly a1)]) (n := 3) (Nat.le_of_ble_eq_true rfl)
  rw [lg_entry_eq]
  generalize (lg_sl ([.ref (ly o), .ref (ly a1)]) ++ List.replicate (3 - (lg_sl ([.ref (ly o), .ref (ly a1)])).length) Slot.unset).toArray = ls at hl ⊢
  have hl : lv_has ls 3 [(0, .ref (ly o)), (1, .ref (ly a1))] := hl
  rw [wp_X10_shownBy] at hw
  obtain ⟨ho, hw⟩ := hw
  obtain ⟨ha1, hw⟩ := hw
  refine lv_aload_n hx hb dX10_shownBy_0 rfl (lv_at hl 0 rfl) ?_
  refine lv_aload_n hx hb dX10_shownBy_1 rfl (lv_at hl 1 rfl) ?_
  refine k_afti (va_runV (As := []) (rest := [.ref (ly o)]) ⟨hx, hb, hml, hown, hts⟩ (c_X3_last l D kA ly n hn A a1 S _) (cwV 0 hts gX10_shownBy_X3_last rfl rfl rfl (by decide +kernel) ⟨(Nat.le_of_ble_eq_true rfl), (Nat.le_of_ble_eq_true rfl)⟩) ⟨k_blind, (k_recv hK hH (pn_lt hn ha1) (Ec_pn ha1) rfl), k_pre hK hN hH hw⟩ rfl rfl hl.1 rfl (lv_room (Nat.le_of_ble_eq_true rfl)) dX10_shownBy_2 ⟨Nat.le_refl _, Nat.le_refl _⟩) hH (fun r2 S1 H locs hw hH => ?_)
  refine k_afti (va_runV (As := [.int r2]) (rest := []) ⟨hx, hb, hml, hown, hts⟩ (c_X10_viewIn l D kA ly n hn A o r2 S1 _) (cwV 1 hts gX10_shownBy_X10_viewIn rfl rfl rfl (by decide +kernel) ⟨(Nat.le_of_ble_eq_true rfl), (Nat.le_of_ble_eq_true rfl)⟩) ⟨k_blind, (k_recv hK hH (w_lt0 hn ho) (Ec_w ho) rfl), k_pre hK hN hH hw⟩ rfl rfl hl.1 rfl (lv_room (Nat.le_of_ble_eq_true rfl)) dX10_shownBy_5 ⟨Nat.le_refl _, Nat.le_refl _⟩) hH (fun r4 S3 H locs hw hH => ?_)
  refine lv_istore_n (lv' := [(2, .int r4), (0, .ref (ly o)), (1, .ref (ly a1))]) hx hb dX10_shownBy_8 rfl hl (by decide) rfl (fun ls hl => ?_)
  refine lv_aload_n hx hb dX10_shownBy_9 rfl (lv_at hl 2 rfl) ?_
  refine gf_pn_2 hx hb hts hiX3 hown hK hn hH ha1 lk0 dX10_shownBy_10 ?_
  by_cases hc5 : (gI S3 a1 2) = 3
  · replace hw := hw.1 hc5
    refine lv_tableIn (tgt := 40) hx hb dX10_shownBy_13 (by rw [hc5]; first | done | decide) (by rw [hc5]; first | done | decide) (by rw [hc5]; first | done | rfl) (by decide) ?_
    refine lv_iload_n hx hb dX10_shownBy_40 rfl (lv_at hl 0 rfl) ?_
    refine lv_iconst (v := 2) hx hb dX10_shownBy_41 (by decide +kernel) ?_
    refine lv_idiv hx hb dX10_shownBy_42 (by decide) ?_
    exact k_iret hx hb hr hlocks hK hN hH hw dX10_shownBy_43
  · replace hw := hw.2 hc5
    by_cases hc6 : (gI S3 a1 2) = 4
    · replace hw := hw.1 hc6
      refine lv_tableIn (tgt := 44) hx hb dX10_shownBy_13 (by rw [hc6]; first | done | decide) (by rw [hc6]; first | done | decide) (by rw [hc6]; first | done | rfl) (by decide) ?_
      refine lv_iload_n hx hb dX10_shownBy_44 rfl (lv_at hl 0 rfl) ?_
      refine lv_iconst (v := 2) hx hb dX10_shownBy_45 (by decide +kernel) ?_
      refine lv_idiv hx hb dX10_shownBy_46 (by decide) ?_
      refine lv_aload_n hx hb dX10_shownBy_47 rfl (lv_at hl 1 rfl) ?_
      refine lv_aload_n hx hb dX10_shownBy_48 rfl (lv_at hl 2 rfl) ?_
      refine k_afti (va_runV (As := []) (rest := [.ref (ly o), .int (r4 / (2 : Int32))]) ⟨hx, hb, hml, hown, hts⟩ (c_X3_aheadOfLast l D kA ly n hn A a1 S3 _) (cwV 0 hts gX10_shownBy_X3_aheadOfLast rfl rfl rfl (by decide +kernel) ⟨(Nat.le_of_ble_eq_true rfl), (Nat.le_of_ble_eq_true rfl)⟩) ⟨k_blind, (k_recv hK hH (pn_lt hn ha1) (Ec_pn ha1) rfl), k_pre hK hN hH hw⟩ rfl rfl hl.1 rfl (lv_room (Nat.le_of_ble_eq_true rfl)) dX10_shownBy_49 ⟨Nat.le_refl _, Nat.le_refl _⟩) hH (fun r8 S7 H locs hw hH => ?_)
      refine k_afti (va_runV (As := [.int r8]) (rest := [.int (r4 / (2 : Int32))]) ⟨hx, hb, hml, hown, hts⟩ (c_X10_viewIn l D kA ly n hn A o r8 S7 _) (cwV 1 hts gX10_shownBy_X10_viewIn rfl rfl rfl (by decide +kernel) ⟨(Nat.le_of_ble_eq_true rfl), (Nat.le_of_ble_eq_true rfl)⟩) ⟨k_blind, (k_recv hK hH (w_lt0 hn ho) (Ec_w ho) rfl), k_pre hK hN hH hw⟩ rfl rfl hl.1 rfl (lv_room (Nat.le_of_ble_eq_true rfl)) dX10_shownBy_52 ⟨Nat.le_refl _, Nat.le_refl _⟩) hH (fun r10 S9 H locs hw hH => ?_)
      refine lv_iconst (v := 2) hx hb dX10_shownBy_55 (by decide +kernel) ?_
      refine lv_idiv hx hb dX10_shownBy_56 (by decide) ?_
      refine lv_iadd hx hb dX10_shownBy_57 ?_
      exact k_iret hx hb hr hlocks hK hN hH hw dX10_shownBy_58
    · replace hw := hw.2 hc6
      by_cases hc11 : (gI S3 a1 2) = 5
      · replace hw := hw.1 hc11
        refine lv_tableIn (tgt := 59) hx hb dX10_shownBy_13 (by rw [hc11]; first | done | decide) (by rw [hc11]; first | done | decide) (by rw [hc11]; first | done | rfl) (by decide) ?_
        refine lv_aload_n hx hb dX10_shownBy_59 rfl (lv_at hl 2 rfl) ?_
        refine k_afti (va_runV (As := []) (rest := []) ⟨hx, hb, hml, hown, hts⟩ (c_X3_last l D kA ly n hn A a1 S3 _) (cwV 0 hts gX10_shownBy_X3_last rfl rfl rfl (by decide +kernel) ⟨(Nat.le_of_ble_eq_true rfl), (Nat.le_of_ble_eq_true rfl)⟩) ⟨k_blind, (k_recv hK hH (pn_lt hn ha1) (Ec_pn ha1) rfl), k_pre hK hN hH hw⟩ rfl rfl hl.1 rfl (lv_room (Nat.le_of_ble_eq_true rfl)) dX10_shownBy_60 ⟨Nat.le_refl _, Nat.le_refl _⟩) hH (fun r13 S12 H locs hw hH => ?_)
        refine lv_bipush (v := -9) hx hb dX10_shownBy_63 (by decide +kernel) ?_
        refine lv_icmp_ne (tgt := 72) hx hb dX10_shownBy_65 (by decide) (fun hc14 => ?_) (fun hc14 => ?_)
        · replace hw := hw.2 hc14
          refine lv_bipush (v := 99) hx hb dX10_shownBy_72 (by decide +kernel) ?_
          refine lv_iload_n hx hb dX10_shownBy_74 rfl (lv_at hl 0 rfl) ?_
          refine lv_isub hx hb dX10_shownBy_75 ?_
          exact k_iret hx hb hr hlocks hK hN hH hw dX10_shownBy_76
        · replace hw := hw.1 hc14
          refine lv_iconst (v := 0) hx hb dX10_shownBy_68 (by decide +kernel) ?_
          refine lv_goto (tgt := 76) hx hb dX10_shownBy_69 (by decide) ?_
          exact k_iret hx hb hr hlocks hK hN hH hw dX10_shownBy_76
      · replace hw := hw.2 hc11
        refine lv_tableOut (tgt := 77) hx hb dX10_shownBy_13 (tb_out3_3 hc5 hc6 hc11) (by decide) ?_
        refine lv_iload_n hx hb dX10_shownBy_77 rfl (lv_at hl 0 rfl) ?_
        exact k_iret hx hb hr hlocks hK hN hH hw dX10_shownBy_78
def wp_X10_loveFor (o : Nat) (a1 : Int32) (a2 : Int32) (S : St) (Q : Int32 → St → Prop) : Prop := (isW o ∧ ((a2 = (-9 : Int32) → Q (0 : Int32) S) ∧ (¬ a2 = (-9 : Int32) → wp_X11_loveSlot a1 (a2 - a2 / (10 : Int32) * (10 : Int32)) S (fun r3 S2 => (vp_in r3 12 ∧ Q (gA S2 (o + 2) r3.toNatClampNeg) S2)))))
set_option maxHeartbeats 4000000 in
set_option maxRecDepth 100000 in
theorem c_X10_loveFor (l : Launch) (D : va_G) (kA : Nat → ClassId) (ly : Nat → Nat) (n : List Nat) (hn : ∀ c, c < 59 → c ∈ n) (A : Nat → Prop) (o : Nat) (a1 : Int32) (a2 : Int32) : Ci l yX10_loveFor wsX10_loveFor 1 21 (Gp D (Ec kA ly) ly n A kA) A [.ref (ly o), .int a1, .int a2] (wp_X10_loveFor o a1 a2) := by
  intro S Q
  refine Met.ofW (cc := cX10_loveFor) (maxL := 3) (ret := (some .int)) (by decide) rfl ?_
  intro p e s m args below meth c s₁ B hml hv
  obtain ⟨rfl, ⟨hP, hD, hK, hN⟩, hw⟩ := hv
  have hx := B.exec
  have hb := B.bytes
  have hr := B.returns
  have hts := atoms_spec (ws := wsX10_loveFor) B.pre
  have hown : s.vm.findClass RX10 = some m.cls := findClass_of_methodNamed B.named
  have hlocks := B.notSynchronized
  have hH : Hp D (Ec kA ly) ly n A s.heap S s.heap [] := ⟨hP, hD, va_S.rf⟩
  have hiX10 : ∀ w ∈ u_ws RX10 TX10 6, w ∈ wsX10_loveFor := by decide +kernel
  have lk0 := hts (.fieldLink RX10 15 "SlowPanes$World" "loves" "[I") (by decide +kernel)
  have lk1 := hts (.initialized RX11) (by decide +kernel)
  have lk2 := hts (.static yX11_loveSlot) (by decide +kernel)
  have hl := lv_entry ([.ref (ly o), .int a1, .int a2]) (n := 3) (Nat.le_of_ble_eq_true rfl)
  rw [lg_entry_eq]
  generalize (lg_sl ([.ref (ly o), .int a1, .int a2]) ++ List.replicate (3 - (lg_sl ([.ref (ly o), .int a1, .int a2])).length) Slot.unset).toArray = ls at hl ⊢
  have hl : lv_has ls 3 [(0, .ref (ly o)), (1, .int a1), (2, .int a2)] := hl
  rw [wp_X10_loveFor] at hw
  obtain ⟨ho, hw⟩ := hw
  refine lv_iload_n hx hb dX10_loveFor_0 rfl (lv_at hl 2 rfl) ?_
  refine lv_bipush (v := -9) hx hb dX10_loveFor_1 (by decide +kernel) ?_
  refine lv_icmp_ne (tgt := 10) hx hb dX10_loveFor_3 (by decide) (fun hc1 => ?_) (fun hc1 => ?_)
  · replace hw := hw.2 hc1
    refine lv_aload_n hx hb dX10_loveFor_10 rfl (lv_at hl 0 rfl) ?_
    refine gf_w_1 hx hb hts hiX10 hown hK hn hH ho lk0 dX10_loveFor_11 ?_
    refine lv_iload_n hx hb dX10_loveFor_14 rfl (lv_at hl 1 rfl) ?_
    refine lv_iload_n hx hb dX10_loveFor_15 rfl (lv_at hl 2 rfl) ?_
    refine lv_bipush (v := 10) hx hb dX10_loveFor_16 (by decide +kernel) ?_
    refine lv_irem hx hb dX10_loveFor_18 (by decide) ?_
    refine k_afti (va_runSN (As := [.int a1, .int (a2 - a2 / (10 : Int32) * (10 : Int32))]) (rest := [.ref (ly (o + 2))]) ⟨hx, hb, hml, hown, hts⟩ (c_X11_loveSlot l D kA ly n hn A a1 (a2 - a2 / (10 : Int32) * (10 : Int32)) S _) ⟨va_cnB 2 hts gX10_loveFor_X11_loveSlot_n75 rfl rfl rfl (hN _ (List.mem_of_getElem? (i := 8) rfl)) lk1 (by decide +kernel) ⟨(Nat.le_of_ble_eq_true rfl), (Nat.le_of_ble_eq_true rfl)⟩, lk2, trivial⟩ ⟨k_blind, k_pre hK hN hH hw⟩ rfl rfl hl.1 rfl (lv_room (Nat.le_of_ble_eq_true rfl)) dX10_loveFor_19 ⟨Nat.le_refl _, Nat.le_refl _⟩) hH (fun r3 S2 H locs hw hH => ?_)
    obtain ⟨hi_4, hw⟩ := hw
    refine k_ild hx hb hK hH (w_lt hn ho 2 (by decide)) (Ec_wl ho) hi_4 dX10_loveFor_22 ?_
    exact k_iret hx hb hr hlocks hK hN hH hw dX10_loveFor_23
  · replace hw := hw.1 hc1
    refine lv_iconst (v := 0) hx hb dX10_loveFor_6 (by decide +kernel) ?_
    refine lv_goto (tgt := 23) hx hb dX10_loveFor_7 (by decide) ?_
    exact k_iret hx hb hr hlocks hK hN hH hw dX10_loveFor_23
def wl_X10_worthOf_22 (o : Nat) (a1 : Nat) (a2 : Int32) (t1 : Int32) (K_22 : Int32 → Int32 → St → Prop) : Nat → Int32 → Int32 → St → Prop
  | 0, _, _, _ => False
  | fu_22 + 1, v4_22, v6_22, S_22 => ((t1 ≤ v6_22 → K_22 v4_22 v6_22 S_22) ∧ (¬ t1 ≤ v6_22 → wp_X10_shownBy o a1 S_22 (fun r5 S4 => wp_X3_last a1 S4 (fun r7 S6 => wp_X10_loveFor o a2 r7 S6 (fun r9 S8 => (∀ t10 : Int32, t10 = (v4_22 + (r5 * r9)) → wp_X3_passDay a1 v6_22 S8 (fun S11 => (∀ t12 : Int32, t12 = v6_22 + 1 → wl_X10_worthOf_22 o a1 a2 t1 K_22 fu_22 t10 t12 S11))))))))
def wp_X10_worthOf (o : Nat) (a1 : Nat) (a2 : Int32) (a3 : Int32) (S : St) (Q : Int32 → St → Prop) : Prop := (isW o ∧ (isPn a1 ∧ (∀ t1 : Int32, t1 = (if ((gI S o 4) + a3) < (50 : Int32) then ((gI S o 4) + a3) else (50 : Int32)) → (∀ t2 : Int32, t2 = (gI S o 4) → (∃ m_22 : Nat, wl_X10_worthOf_22 o a1 a2 t1 (fun e4_13 e6_14 S15 => Q e4_13 S15) m_22 (0 : Int32) t2 S)))))
set_option maxHeartbeats 4000000 in
set_option maxRecDepth 100000 in
theorem c_X10_worthOf (l : Launch) (D : va_G) (kA : Nat → ClassId) (ly : Nat → Nat) (n : List Nat) (hn : ∀ c, c < 59 → c ∈ n) (A : Nat → Prop) (o : Nat) (a1 : Nat) (a2 : Int32) (a3 : Int32) : Ci l yX10_worthOf wsX10_worthOf 3 64 (Gp D (Ec kA ly) ly n A kA) A [.ref (ly o), .ref (ly a1), .int a2, .int a3] (wp_X10_worthOf o a1 a2 a3) := by
  intro S Q
  refine Met.ofW (cc := cX10_worthOf) (maxL := 7) (ret := (some .int)) (by decide) rfl ?_
  intro p e s m args below meth c s₁ B hml hv
  obtain ⟨rfl, ⟨hP, hD, hK, hN⟩, hw⟩ := hv
  have hx := B.exec
  have hb := B.bytes
  have hr := B.returns
  have hts := atoms_spec (ws := wsX10_worthOf) B.pre
  have hown : s.vm.findClass RX10 = some m.cls := findClass_of_methodNamed B.named
  have hlocks := B.notSynchronized
  have hH : Hp D (Ec kA ly) ly n A s.heap S s.heap [] := ⟨hP, hD, va_S.rf⟩
  have hiX10 : ∀ w ∈ u_ws RX10 TX10 6, w ∈ wsX10_worthOf := by decide +kernel
  have lk0 := hts (.fieldLink RX10 28 "SlowPanes$World" "today" "I") (by decide +kernel)
  have lk1 := hts (.methodLink RX10 78 Lib.Math.min.name) (by decide +kernel)
  have lk2 := hts (.static Lib.Math.min.name) (by decide +kernel)
  have lk3 := hts (.initialized "java/lang/Math") (by decide +kernel)
  have lk4 := hts (.code Lib.Math.min.name Lib.Math.min.code 2 (some .int)) (by decide +kernel)
  have hl := lv_entry ([.ref (ly o), .ref (ly a1), .int a2, .int a3]) (n := 7) (Nat.le_of_ble_eq_true rfl)
  rw [lg_entry_eq]
  generalize (lg_sl ([.ref (ly o), .ref (ly a1), .int a2, .int a3]) ++ List.replicate (7 - (lg_sl ([.ref (ly o), .ref (ly a1), .int a2, .int a3])).length) Slot.unset).toArray = ls at hl ⊢
  have hl : lv_has ls 7 [(0, .ref (ly o)), (1, .ref (ly a1)), (2, .int a2), (3, .int a3)] := hl
  rw [wp_X10_worthOf] at hw
  obtain ⟨ho, hw⟩ := hw
  obtain ⟨ha1, hw⟩ := hw
  refine lv_iconst (v := 0) hx hb dX10_worthOf_0 (by decide +kernel) ?_
  refine lv_istore (lv' := [(4, .int (0 : Int32)), (0, .ref (ly o)), (1, .ref (ly a1)), (2, .int a2), (3, .int a3)]) hx hb dX10_worthOf_1 hl (by decide) rfl (fun ls hl => ?_)
  refine lv_bipush (v := 50) hx hb dX10_worthOf_3 (by decide +kernel) ?_
  refine lv_aload_n hx hb dX10_worthOf_5 rfl (lv_at hl 1 rfl) ?_
  refine gf_w_4 hx hb hts hiX10 hown hK hn hH ho lk0 dX10_worthOf_6 ?_
  refine lv_iload_n hx hb dX10_worthOf_9 rfl (lv_at hl 4 rfl) ?_
  refine lv_iadd hx hb dX10_worthOf_10 ?_
  refine va_mmin hx hb (hml.trans hl.1.symm) hown lk1 lk2 lk3 lk4 (Nat.le_of_ble_eq_true rfl) (Nat.le_of_ble_eq_true rfl) (Nat.le_refl _) (Nat.le_refl _) dX10_worthOf_11 ?_
  refine lv_topi (fun t1 et1 => ?_)
  replace hw := hw t1 et1
  refine lv_istore (lv' := [(5, .int t1), (4, .int (0 : Int32)), (0, .ref (ly o)), (1, .ref (ly a1)), (2, .int a2), (3, .int a3)]) hx hb dX10_worthOf_14 hl (by decide) rfl (fun ls hl => ?_)
  refine lv_aload_n hx hb dX10_worthOf_16 rfl (lv_at hl 2 rfl) ?_
  refine gf_w_4 hx hb hts hiX10 hown hK hn hH ho lk0 dX10_worthOf_17 ?_
  refine lv_topi (fun t2 et2 => ?_)
  replace hw := hw t2 et2
  refine lv_istore (lv' := [(6, .int t2), (5, .int t1), (4, .int (0 : Int32)), (0, .ref (ly o)), (1, .ref (ly a1)), (2, .int a2), (3, .int a3)]) hx hb dX10_worthOf_20 hl (by decide) rfl (fun ls hl => ?_)
  have L_22 : ∀ (K_22 : Int32 → Int32 → St → Prop) (hk_22 : ∀ (v4_22 : Int32) (v6_22 : Int32) (S_22 : St) (H : Heap) (locs : List Loc) (ls : Array Slot), K_22 v4_22 v6_22 S_22 → Hp D (Ec kA ly) ly n A s.heap S_22 H locs → lv_has ls 7 [(0, .ref (ly o)), (1, .ref (ly a1)), (2, .int a2), (3, .int a3), (4, .int v4_22), (5, .int t1), (6, .int v6_22)] → W p l e (headSpec wsX10_worthOf { frames := 3, cells := 0, slots := 0, locals := 64 }).room s m [.ref (ly o), .ref (ly a1), .int a2, .int a3].toArray below meth c H locs 0 0 (MQ below (va_Qi Q (Gp D (Ec kA ly) ly n A kA) A) [.ref (ly o), .ref (ly a1), .int a2, .int a3].toArray s 0 0 A) (F0 m 61 ls [])) (fu_22 : Nat) (v4_22 : Int32) (v6_22 : Int32) (S_22 : St) (H : Heap) (locs : List Loc) (ls : Array Slot), wl_X10_worthOf_22 o a1 a2 t1 K_22 fu_22 v4_22 v6_22 S_22 → Hp D (Ec kA ly) ly n A s.heap S_22 H locs → lv_has ls 7 [(0, .ref (ly o)), (1, .ref (ly a1)), (2, .int a2), (3, .int a3), (4, .int v4_22), (5, .int t1), (6, .int v6_22)] → W p l e (headSpec wsX10_worthOf { frames := 3, cells := 0, slots := 0, locals := 64 }).room s m [.ref (ly o), .ref (ly a1), .int a2, .int a3].toArray below meth c H locs 0 0 (MQ below (va_Qi Q (Gp D (Ec kA ly) ly n A kA) A) [.ref (ly o), .ref (ly a1), .int a2, .int a3].toArray s 0 0 A) (F0 m 22 ls []) := by
    intro K_22 hk_22 fu_22
    induction fu_22 with
    | zero => intro v4_22 v6_22 S_22 H locs ls hw hH hl; rw [wl_X10_worthOf_22] at hw; exact hw.elim
    | succ fu_22 ih_22 =>
      intro v4_22 v6_22 S_22 H locs ls hw hH hl
      rw [wl_X10_worthOf_22] at hw
      refine lv_iload hx hb dX10_worthOf_22 (lv_at hl 6 rfl) ?_
      refine lv_iload hx hb dX10_worthOf_24 (lv_at hl 5 rfl) ?_
      refine lv_icmp_ge (tgt := 61) hx hb dX10_worthOf_26 (by decide) (fun hc3 => ?_) (fun hc3 => ?_)
      · replace hw := hw.1 hc3
        exact hk_22 v4_22 v6_22 S_22 _ _ ls hw hH (lv_sub hl [0, 1, 2, 3, 4, 5, 6] rfl)
      · replace hw := hw.2 hc3
        refine lv_iload hx hb dX10_worthOf_29 (lv_at hl 4 rfl) ?_
        refine lv_aload_n hx hb dX10_worthOf_31 rfl (lv_at hl 0 rfl) ?_
        refine lv_aload_n hx hb dX10_worthOf_32 rfl (lv_at hl 1 rfl) ?_
        refine k_afti (va_runV (As := [.ref (ly a1)]) (rest := [.int v4_22]) ⟨hx, hb, hml, hown, hts⟩ (c_X10_shownBy l D kA ly n hn A o a1 S_22 _) (cwV 1 hts gX10_worthOf_X10_shownBy rfl rfl rfl (by decide +kernel) ⟨(Nat.le_of_ble_eq_true rfl), (Nat.le_of_ble_eq_true rfl)⟩) ⟨k_blind, (k_recv hK hH (w_lt0 hn ho) (Ec_w ho) rfl), k_pre hK hN hH hw⟩ rfl rfl hl.1 rfl (lv_room (Nat.le_of_ble_eq_true rfl)) dX10_worthOf_33 ⟨Nat.le_refl _, Nat.le_refl _⟩) hH (fun r5 S4 H locs hw hH => ?_)
        refine lv_aload_n hx hb dX10_worthOf_36 rfl (lv_at hl 0 rfl) ?_
        refine lv_iload_n hx hb dX10_worthOf_37 rfl (lv_at hl 2 rfl) ?_
        refine lv_aload_n hx hb dX10_worthOf_38 rfl (lv_at hl 1 rfl) ?_
        refine k_afti (va_runV (As := []) (rest := [.int a2, .ref (ly o), .int r5, .int v4_22]) ⟨hx, hb, hml, hown, hts⟩ (c_X3_last l D kA ly n hn A a1 S4 _) (cwV 0 hts gX10_worthOf_X3_last rfl rfl rfl (by decide +kernel) ⟨(Nat.le_of_ble_eq_true rfl), (Nat.le_of_ble_eq_true rfl)⟩) ⟨k_blind, (k_recv hK hH (pn_lt hn ha1) (Ec_pn ha1) rfl), k_pre hK hN hH hw⟩ rfl rfl hl.1 rfl (lv_room (Nat.le_of_ble_eq_true rfl)) dX10_worthOf_39 ⟨Nat.le_refl _, Nat.le_refl _⟩) hH (fun r7 S6 H locs hw hH => ?_)
        refine k_afti (va_runV (As := [.int a2, .int r7]) (rest := [.int r5, .int v4_22]) ⟨hx, hb, hml, hown, hts⟩ (c_X10_loveFor l D kA ly n hn A o a2 r7 S6 _) (cwV 2 hts gX10_worthOf_X10_loveFor rfl rfl rfl (by decide +kernel) ⟨(Nat.le_of_ble_eq_true rfl), (Nat.le_of_ble_eq_true rfl)⟩) ⟨k_blind, (k_recv hK hH (w_lt0 hn ho) (Ec_w ho) rfl), k_pre hK hN hH hw⟩ rfl rfl hl.1 rfl (lv_room (Nat.le_of_ble_eq_true rfl)) dX10_worthOf_42 ⟨Nat.le_refl _, Nat.le_refl _⟩) hH (fun r9 S8 H locs hw hH => ?_)
        refine lv_imul hx hb dX10_worthOf_45 ?_
        refine lv_iadd hx hb dX10_worthOf_46 ?_
        refine lv_topi (fun t10 et10 => ?_)
        replace hw := hw t10 et10
        refine lv_istore (lv' := [(4, .int t10), (0, .ref (ly o)), (1, .ref (ly a1)), (2, .int a2), (3, .int a3), (5, .int t1), (6, .int v6_22)]) hx hb dX10_worthOf_47 hl (by decide) rfl (fun ls hl => ?_)
        refine lv_aload_n hx hb dX10_worthOf_49 rfl (lv_at hl 2 rfl) ?_
        refine lv_iload hx hb dX10_worthOf_50 (lv_at hl 6 rfl) ?_
        refine k_aftv (va_runV (As := [.int v6_22]) (rest := []) ⟨hx, hb, hml, hown, hts⟩ (c_X3_passDay l D kA ly n hn A a1 v6_22 S8 _) (cwV 1 hts gX10_worthOf_X3_passDay rfl rfl rfl (by decide +kernel) ⟨(Nat.le_of_ble_eq_true rfl), (Nat.le_of_ble_eq_true rfl)⟩) ⟨k_blind, (k_recv hK hH (pn_lt hn ha1) (Ec_pn ha1) rfl), k_pre hK hN hH hw⟩ rfl rfl hl.1 rfl (lv_room (Nat.le_of_ble_eq_true rfl)) dX10_worthOf_52 ⟨Nat.le_refl _, Nat.le_refl _⟩) hH (fun S11 H locs hw hH => ?_)
        obtain ⟨t12, et12⟩ : ∃ y : Int32, y = v6_22 + 1 := ⟨_, rfl⟩
        replace hw := hw t12 et12
        refine lv_iinc (v := t12) (lv' := [(6, .int t12), (4, .int t10), (0, .ref (ly o)), (1, .ref (ly a1)), (2, .int a2), (3, .int a3), (5, .int t1)]) hx hb dX10_worthOf_55 hl (k := 6) rfl (by rw [et12]; rfl) (by decide) rfl (fun ls hl => ?_)
        refine lv_goto (tgt := 22) hx hb dX10_worthOf_58 (by decide) ?_
        exact ih_22 t10 t12 S11 _ _ ls hw hH (lv_sub hl [2, 3, 4, 5, 1, 6, 0] rfl)
  obtain ⟨m_22, hw⟩ := hw
  refine L_22 _ (fun e4_13 e6_14 S15 H locs ls hw hH hl => ?_) m_22 (0 : Int32) t2 S _ _ ls hw hH (lv_sub hl [3, 4, 5, 6, 2, 1, 0] rfl)
  refine lv_iload hx hb dX10_worthOf_61 (lv_at hl 4 rfl) ?_
  exact k_iret hx hb hr hlocks hK hN hH hw dX10_worthOf_63
def wp_X11_feed (a1 : Int64) (a3 : Int32) (S : St) (Q : Int32 → St → Prop) : Prop := ((a3 < (1 : Int32) → Q (-1 : Int32) S) ∧ (¬ a3 < (1 : Int32) → ((a3 ≤ (8 : Int32) → ((((gI S 1 1) + a3) ≤ (200 : Int32) → wp_X4_take a1 a3 S (fun S4 => Q (gI S4 1 1) S4)) ∧ (¬ ((gI S 1 1) + a3) ≤ (200 : Int32) → Q (-2 : Int32) S))) ∧ (¬ a3 ≤ (8 : Int32) → Q (-1 : Int32) S))))
set_option maxHeartbeats 4000000 in
set_option maxRecDepth 100000 in
theorem c_X11_feed (l : Launch) (D : va_G) (kA : Nat → ClassId) (ly : Nat → Nat) (n : List Nat) (hn : ∀ c, c < 59 → c ∈ n) (A : Nat → Prop) (a1 : Int64) (a3 : Int32) : Ci l yX11_feed wsX11_feed 1 24 (Gp D (Ec kA ly) ly n A kA) A [.ref (ly 0), .long a1, .int a3] (wp_X11_feed a1 a3) := by
  intro S Q
  refine Met.ofW (cc := cX11_feed) (maxL := 4) (ret := (some .int)) (by decide) rfl ?_
  intro p e s m args below meth c s₁ B hml hv
  obtain ⟨rfl, ⟨hP, hD, hK, hN⟩, hw⟩ := hv
  have hx := B.exec
  have hb := B.bytes
  have hr := B.returns
  have hts := atoms_spec (ws := wsX11_feed) B.pre
  have hown : s.vm.findClass RX11 = some m.cls := findClass_of_methodNamed B.named
  have hlocks := B.notSynchronized
  have hH : Hp D (Ec kA ly) ly n A s.heap S s.heap [] := ⟨hP, hD, va_S.rf⟩
  have hiX11 : ∀ w ∈ u_ws RX11 TX11 12, w ∈ wsX11_feed := by decide +kernel
  have hiX4 : ∀ w ∈ u_ws RX4 TX4 5, w ∈ wsX11_feed := by decide +kernel
  have lk0 := hts (.fieldLink RX11 19 "SlowPanes" "tape" "LSlowPanes$Quarry;") (by decide +kernel)
  have lk1 := hts (.fieldLink RX11 67 "SlowPanes$Quarry" "length" "I") (by decide +kernel)
  have hl := lv_entry ([.ref (ly 0), .long a1, .int a3]) (n := 4) (Nat.le_of_ble_eq_true rfl)
  rw [lg_entry_eq]
  generalize (lg_sl ([.ref (ly 0), .long a1, .int a3]) ++ List.replicate (4 - (lg_sl ([.ref (ly 0), .long a1, .int a3])).length) Slot.unset).toArray = ls at hl ⊢
  have hl : lv_has ls 4 [(0, .ref (ly 0)), (1, .long a1), (3, .int a3)] := hl
  rw [wp_X11_feed] at hw
  refine lv_iload_n hx hb dX11_feed_0 rfl (lv_at hl 2 rfl) ?_
  refine lv_iconst (v := 1) hx hb dX11_feed_1 (by decide +kernel) ?_
  refine lv_icmp_lt (tgt := 11) hx hb dX11_feed_2 (by decide) (fun hc1 => ?_) (fun hc1 => ?_)
  · replace hw := hw.1 hc1
    refine lv_iconst (v := -1) hx hb dX11_feed_11 (by decide +kernel) ?_
    exact k_iret hx hb hr hlocks hK hN hH hw dX11_feed_12
  · replace hw := hw.2 hc1
    refine lv_iload_n hx hb dX11_feed_5 rfl (lv_at hl 2 rfl) ?_
    refine lv_bipush (v := 8) hx hb dX11_feed_6 (by decide +kernel) ?_
    refine lv_icmp_le (tgt := 13) hx hb dX11_feed_8 (by decide) (fun hc2 => ?_) (fun hc2 => ?_)
    · replace hw := hw.1 hc2
      refine lv_aload_n hx hb dX11_feed_13 rfl (lv_at hl 0 rfl) ?_
      refine gf_this_1 hx hb hts hiX11 hown hK hn hH lk0 dX11_feed_14 ?_
      refine gf_tape_1 hx hb hts hiX4 hown hK hn hH lk1 dX11_feed_17 ?_
      refine lv_iload_n hx hb dX11_feed_20 rfl (lv_at hl 2 rfl) ?_
      refine lv_iadd hx hb dX11_feed_21 ?_
      refine lv_sipush (v := 200) hx hb dX11_feed_22 (by decide +kernel) ?_
      refine lv_icmp_le (tgt := 31) hx hb dX11_feed_25 (by decide) (fun hc3 => ?_) (fun hc3 => ?_)
      · replace hw := hw.1 hc3
        refine lv_aload_n hx hb dX11_feed_31 rfl (lv_at hl 0 rfl) ?_
        refine gf_this_1 hx hb hts hiX11 hown hK hn hH lk0 dX11_feed_32 ?_
        refine lv_lload_n hx hb dX11_feed_35 rfl (lv_at hl 1 rfl) ?_
        refine lv_iload_n hx hb dX11_feed_36 rfl (lv_at hl 2 rfl) ?_
        refine k_aftv (va_runV (As := [.long a1, .int a3]) (rest := []) ⟨hx, hb, hml, hown, hts⟩ (c_X4_take l D kA ly n hn A a1 a3 S _) (cwV 2 hts gX11_feed_X4_take rfl rfl rfl (by decide +kernel) ⟨(Nat.le_of_ble_eq_true rfl), (Nat.le_of_ble_eq_true rfl)⟩) ⟨k_blind, (k_recv hK hH (lt_n hn (by decide)) Ec_1 rfl), k_pre hK hN hH hw⟩ rfl rfl hl.1 rfl (lv_room (Nat.le_of_ble_eq_true rfl)) dX11_feed_37 ⟨Nat.le_refl _, Nat.le_refl _⟩) hH (fun S4 H locs hw hH => ?_)
        refine lv_aload_n hx hb dX11_feed_40 rfl (lv_at hl 0 rfl) ?_
        refine gf_this_1 hx hb hts hiX11 hown hK hn hH lk0 dX11_feed_41 ?_
        refine gf_tape_1 hx hb hts hiX4 hown hK hn hH lk1 dX11_feed_44 ?_
        exact k_iret hx hb hr hlocks hK hN hH hw dX11_feed_47
      · replace hw := hw.2 hc3
        refine lv_bipush (v := -2) hx hb dX11_feed_28 (by decide +kernel) ?_
        exact k_iret hx hb hr hlocks hK hN hH hw dX11_feed_30
    · replace hw := hw.2 hc2
      refine lv_iconst (v := -1) hx hb dX11_feed_11 (by decide +kernel) ?_
      exact k_iret hx hb hr hlocks hK hN hH hw dX11_feed_12
def wp_X11_isPlace (a0 : Int32) (S : St) (Q : Int32 → St → Prop) : Prop := ((a0 < 0 → Q (0 : Int32) S) ∧ (¬ a0 < 0 → (((4 : Int32) ≤ a0 → Q (0 : Int32) S) ∧ (¬ (4 : Int32) ≤ a0 → Q (1 : Int32) S))))
set_option maxHeartbeats 4000000 in
set_option maxRecDepth 100000 in
theorem c_X11_isPlace (l : Launch) (D : va_G) (kA : Nat → ClassId) (ly : Nat → Nat) (n : List Nat) (hn : ∀ c, c < 59 → c ∈ n) (A : Nat → Prop) (a0 : Int32) : Ci l yX11_isPlace wsX11_isPlace 0 0 (Gp D (Ec kA ly) ly n A kA) A [.int a0] (wp_X11_isPlace a0) := by
  intro S Q
  refine Met.ofW (cc := cX11_isPlace) (maxL := 1) (ret := (some .boolean)) (by decide) rfl ?_
  intro p e s m args below meth c s₁ B hml hv
  obtain ⟨rfl, ⟨hP, hD, hK, hN⟩, hw⟩ := hv
  have hx := B.exec
  have hb := B.bytes
  have hr := B.returns
  have hts := atoms_spec (ws := wsX11_isPlace) B.pre
  have hown : s.vm.findClass RX11 = some m.cls := findClass_of_methodNamed B.named
  have hlocks := B.notSynchronized
  have hH : Hp D (Ec kA ly) ly n A s.heap S s.heap [] := ⟨hP, hD, va_S.rf⟩
  have hl := lv_entry ([.int a0]) (n := 1) (Nat.le_of_ble_eq_true rfl)
  rw [lg_entry_eq]
  generalize (lg_sl ([.int a0]) ++ List.replicate (1 - (lg_sl ([.int a0])).length) Slot.unset).toArray = ls at hl ⊢
  have hl : lv_has ls 1 [(0, .int a0)] := hl
  rw [wp_X11_isPlace] at hw
  refine lv_iload_n hx hb dX11_isPlace_0 rfl (lv_at hl 0 rfl) ?_
  refine lv_if_lt (tgt := 13) hx hb dX11_isPlace_1 (by decide) (fun hc1 => ?_) (fun hc1 => ?_)
  · replace hw := hw.1 hc1
    refine lv_iconst (v := 0) hx hb dX11_isPlace_13 (by decide +kernel) ?_
    exact k_zret hx hb hr hlocks hK hN hH rfl hw dX11_isPlace_14
  · replace hw := hw.2 hc1
    refine lv_iload_n hx hb dX11_isPlace_4 rfl (lv_at hl 0 rfl) ?_
    refine lv_iconst (v := 4) hx hb dX11_isPlace_5 (by decide +kernel) ?_
    refine lv_icmp_ge (tgt := 13) hx hb dX11_isPlace_6 (by decide) (fun hc2 => ?_) (fun hc2 => ?_)
    · replace hw := hw.1 hc2
      refine lv_iconst (v := 0) hx hb dX11_isPlace_13 (by decide +kernel) ?_
      exact k_zret hx hb hr hlocks hK hN hH rfl hw dX11_isPlace_14
    · replace hw := hw.2 hc2
      refine lv_iconst (v := 1) hx hb dX11_isPlace_9 (by decide +kernel) ?_
      refine lv_goto (tgt := 14) hx hb dX11_isPlace_10 (by decide) ?_
      exact k_zret hx hb hr hlocks hK hN hH rfl hw dX11_isPlace_14
def wp_X11_isDay (a0 : Int32) (S : St) (Q : Int32 → St → Prop) : Prop := ((a0 < 0 → Q (0 : Int32) S) ∧ (¬ a0 < 0 → (((50 : Int32) ≤ a0 → Q (0 : Int32) S) ∧ (¬ (50 : Int32) ≤ a0 → Q (1 : Int32) S))))
set_option maxHeartbeats 4000000 in
set_option maxRecDepth 100000 in
theorem c_X11_isDay (l : Launch) (D : va_G) (kA : Nat → ClassId) (ly : Nat → Nat) (n : List Nat) (hn : ∀ c, c < 59 → c ∈ n) (A : Nat → Prop) (a0 : Int32) : Ci l yX11_isDay wsX11_isDay 0 0 (Gp D (Ec kA ly) ly n A kA) A [.int a0] (wp_X11_isDay a0) := by
  intro S Q
  refine Met.ofW (cc := cX11_isDay) (maxL := 1) (ret := (some .boolean)) (by decide) rfl ?_
  intro p e s m args below meth c s₁ B hml hv
  obtain ⟨rfl, ⟨hP, hD, hK, hN⟩, hw⟩ := hv
  have hx := B.exec
  have hb := B.bytes
  have hr := B.returns
  have hts := atoms_spec (ws := wsX11_isDay) B.pre
  have hown : s.vm.findClass RX11 = some m.cls := findClass_of_methodNamed B.named
  have hlocks := B.notSynchronized
  have hH : Hp D (Ec kA ly) ly n A s.heap S s.heap [] := ⟨hP, hD, va_S.rf⟩
  have hl := lv_entry ([.int a0]) (n := 1) (Nat.le_of_ble_eq_true rfl)
  rw [lg_entry_eq]
  generalize (lg_sl ([.int a0]) ++ List.replicate (1 - (lg_sl ([.int a0])).length) Slot.unset).toArray = ls at hl ⊢
  have hl : lv_has ls 1 [(0, .int a0)] := hl
  rw [wp_X11_isDay] at hw
  refine lv_iload_n hx hb dX11_isDay_0 rfl (lv_at hl 0 rfl) ?_
  refine lv_if_lt (tgt := 14) hx hb dX11_isDay_1 (by decide) (fun hc1 => ?_) (fun hc1 => ?_)
  · replace hw := hw.1 hc1
    refine lv_iconst (v := 0) hx hb dX11_isDay_14 (by decide +kernel) ?_
    exact k_zret hx hb hr hlocks hK hN hH rfl hw dX11_isDay_15
  · replace hw := hw.2 hc1
    refine lv_iload_n hx hb dX11_isDay_4 rfl (lv_at hl 0 rfl) ?_
    refine lv_bipush (v := 50) hx hb dX11_isDay_5 (by decide +kernel) ?_
    refine lv_icmp_ge (tgt := 14) hx hb dX11_isDay_7 (by decide) (fun hc2 => ?_) (fun hc2 => ?_)
    · replace hw := hw.1 hc2
      refine lv_iconst (v := 0) hx hb dX11_isDay_14 (by decide +kernel) ?_
      exact k_zret hx hb hr hlocks hK hN hH rfl hw dX11_isDay_15
    · replace hw := hw.2 hc2
      refine lv_iconst (v := 1) hx hb dX11_isDay_10 (by decide +kernel) ?_
      refine lv_goto (tgt := 15) hx hb dX11_isDay_11 (by decide) ?_
      exact k_zret hx hb hr hlocks hK hN hH rfl hw dX11_isDay_15
def wp_X11_view (a1 : Int32) (a2 : Int32) (a3 : Int32) (S : St) (Q : Int32 → St → Prop) : Prop := wp_X11_isPlace a1 S (fun r2 S1 => ((r2 = 0 → Q (-1 : Int32) S1) ∧ (¬ r2 = 0 → wp_X11_isDay a2 S1 (fun r5 S4 => ((r5 = 0 → Q (-1 : Int32) S4) ∧ (¬ r5 = 0 → ((a3 < 0 → Q (-1 : Int32) S4) ∧ (¬ a3 < 0 → ((a3 ≤ (99 : Int32) → wp_X11_viewSlot a1 a2 S4 (fun r10 S9 => (∀ o11 : Nat, o11 = (gN S9 0 8) → isW o11 ∧ (vp_in r10 200 ∧ (∀ t13 : Int32, t13 = (gA S9 (o11 + 1) r10.toNatClampNeg) → (vp_in r10 200 ∧ ∀ S15 : St, S15 = sA S9 (o11 + 1) r10.toNatClampNeg a3 → Q t13 S15)))))) ∧ (¬ a3 ≤ (99 : Int32) → Q (-1 : Int32) S4))))))))))
set_option maxHeartbeats 4000000 in
set_option maxRecDepth 100000 in
theorem c_X11_view (l : Launch) (D : va_G) (kA : Nat → ClassId) (ly : Nat → Nat) (n : List Nat) (hn : ∀ c, c < 59 → c ∈ n) (A : Nat → Prop) (a1 : Int32) (a2 : Int32) (a3 : Int32) : Ci l yX11_view wsX11_view 1 21 (Gp D (Ec kA ly) ly n A kA) A [.ref (ly 0), .int a1, .int a2, .int a3] (wp_X11_view a1 a2 a3) := by
  intro S Q
  refine Met.ofW (cc := cX11_view) (maxL := 6) (ret := (some .int)) (by decide) rfl ?_
  intro p e s m args below meth c s₁ B hml hv
  obtain ⟨rfl, ⟨hP, hD, hK, hN⟩, hw⟩ := hv
  have hx := B.exec
  have hb := B.bytes
  have hr := B.returns
  have hts := atoms_spec (ws := wsX11_view) B.pre
  have hown : s.vm.findClass RX11 = some m.cls := findClass_of_methodNamed B.named
  have hlocks := B.notSynchronized
  have hH : Hp D (Ec kA ly) ly n A s.heap S s.heap [] := ⟨hP, hD, va_S.rf⟩
  have hiX11 : ∀ w ∈ u_ws RX11 TX11 12, w ∈ wsX11_view := by decide +kernel
  have hiX10 : ∀ w ∈ u_ws RX10 TX10 6, w ∈ wsX11_view := by decide +kernel
  have lk0 := hts (.fieldLink RX11 53 "SlowPanes" "world" "LSlowPanes$World;") (by decide +kernel)
  have lk1 := hts (.fieldLink RX11 98 "SlowPanes$World" "views" "[I") (by decide +kernel)
  have hl := lv_entry ([.ref (ly 0), .int a1, .int a2, .int a3]) (n := 6) (Nat.le_of_ble_eq_true rfl)
  rw [lg_entry_eq]
  generalize (lg_sl ([.ref (ly 0), .int a1, .int a2, .int a3]) ++ List.replicate (6 - (lg_sl ([.ref (ly 0), .int a1, .int a2, .int a3])).length) Slot.unset).toArray = ls at hl ⊢
  have hl : lv_has ls 6 [(0, .ref (ly 0)), (1, .int a1), (2, .int a2), (3, .int a3)] := hl
  rw [wp_X11_view] at hw
  refine lv_iload_n hx hb dX11_view_0 rfl (lv_at hl 1 rfl) ?_
  refine k_afti (va_runS (As := [.int a1]) (rest := []) ⟨hx, hb, hml, hown, hts⟩ (c_X11_isPlace l D kA ly n hn A a1 S _) (va_cwS 1 hts gX11_view_X11_isPlace rfl rfl rfl (by decide +kernel) ⟨(Nat.le_of_ble_eq_true rfl), (Nat.le_of_ble_eq_true rfl)⟩) ⟨k_blind, k_pre hK hN hH hw⟩ rfl rfl hl.1 rfl (lv_room (Nat.le_of_ble_eq_true rfl)) dX11_view_1 ⟨Nat.le_refl _, Nat.le_refl _⟩) hH (fun r2 S1 H locs hw hH => ?_)
  refine lv_if_eq (tgt := 24) hx hb dX11_view_4 (by decide) (fun hc3 => ?_) (fun hc3 => ?_)
  · replace hw := hw.1 hc3
    refine lv_iconst (v := -1) hx hb dX11_view_24 (by decide +kernel) ?_
    exact k_iret hx hb hr hlocks hK hN hH hw dX11_view_25
  · replace hw := hw.2 hc3
    refine lv_iload_n hx hb dX11_view_7 rfl (lv_at hl 2 rfl) ?_
    refine k_afti (va_runS (As := [.int a2]) (rest := []) ⟨hx, hb, hml, hown, hts⟩ (c_X11_isDay l D kA ly n hn A a2 S1 _) (va_cwS 1 hts gX11_view_X11_isDay rfl rfl rfl (by decide +kernel) ⟨(Nat.le_of_ble_eq_true rfl), (Nat.le_of_ble_eq_true rfl)⟩) ⟨k_blind, k_pre hK hN hH hw⟩ rfl rfl hl.1 rfl (lv_room (Nat.le_of_ble_eq_true rfl)) dX11_view_8 ⟨Nat.le_refl _, Nat.le_refl _⟩) hH (fun r5 S4 H locs hw hH => ?_)
    refine lv_if_eq (tgt := 24) hx hb dX11_view_11 (by decide) (fun hc6 => ?_) (fun hc6 => ?_)
    · replace hw := hw.1 hc6
      refine lv_iconst (v := -1) hx hb dX11_view_24 (by decide +kernel) ?_
      exact k_iret hx hb hr hlocks hK hN hH hw dX11_view_25
    · replace hw := hw.2 hc6
      refine lv_iload_n hx hb dX11_view_14 rfl (lv_at hl 3 rfl) ?_
      refine lv_if_lt (tgt := 24) hx hb dX11_view_15 (by decide) (fun hc7 => ?_) (fun hc7 => ?_)
      · replace hw := hw.1 hc7
        refine lv_iconst (v := -1) hx hb dX11_view_24 (by decide +kernel) ?_
        exact k_iret hx hb hr hlocks hK hN hH hw dX11_view_25
      · replace hw := hw.2 hc7
        refine lv_iload_n hx hb dX11_view_18 rfl (lv_at hl 3 rfl) ?_
        refine lv_bipush (v := 99) hx hb dX11_view_19 (by decide +kernel) ?_
        refine lv_icmp_le (tgt := 26) hx hb dX11_view_21 (by decide) (fun hc8 => ?_) (fun hc8 => ?_)
        · replace hw := hw.1 hc8
          refine lv_iload_n hx hb dX11_view_26 rfl (lv_at hl 1 rfl) ?_
          refine lv_iload_n hx hb dX11_view_27 rfl (lv_at hl 2 rfl) ?_
          refine k_afti (va_runS (As := [.int a1, .int a2]) (rest := []) ⟨hx, hb, hml, hown, hts⟩ (c_X11_viewSlot l D kA ly n hn A a1 a2 S4 _) (va_cwS 2 hts gX11_view_X11_viewSlot rfl rfl rfl (by decide +kernel) ⟨(Nat.le_of_ble_eq_true rfl), (Nat.le_of_ble_eq_true rfl)⟩) ⟨k_blind, k_pre hK hN hH hw⟩ rfl rfl hl.1 rfl (lv_room (Nat.le_of_ble_eq_true rfl)) dX11_view_28 ⟨Nat.le_refl _, Nat.le_refl _⟩) hH (fun r10 S9 H locs hw hH => ?_)
          refine lv_istore (lv' := [(4, .int r10), (0, .ref (ly 0)), (1, .int a1), (2, .int a2), (3, .int a3)]) hx hb dX11_view_31 hl (by decide) rfl (fun ls hl => ?_)
          refine lv_aload_n hx hb dX11_view_33 rfl (lv_at hl 1 rfl) ?_
          refine gf_this_8 hx hb hts hiX11 hown hK hn hH lk0 dX11_view_34 ?_
          obtain ⟨o11, eo11⟩ : ∃ y : Nat, y = (gN S9 0 8) := ⟨_, rfl⟩
          obtain ⟨ho11, hw⟩ := hw o11 eo11
          rw [← eo11]
          refine gf_w_0 hx hb hts hiX10 hown hK hn hH ho11 lk1 dX11_view_37 ?_
          refine lv_iload hx hb dX11_view_40 (lv_at hl 0 rfl) ?_
          obtain ⟨hi_12, hw⟩ := hw
          refine k_ild hx hb hK hH (w_lt hn ho11 1 (by decide)) (Ec_wv ho11) hi_12 dX11_view_42 ?_
          refine lv_topi (fun t13 et13 => ?_)
          replace hw := hw t13 et13
          refine lv_istore (lv' := [(5, .int t13), (4, .int r10), (0, .ref (ly 0)), (1, .int a1), (2, .int a2), (3, .int a3)]) hx hb dX11_view_43 hl (by decide) rfl (fun ls hl => ?_)
          refine lv_aload_n hx hb dX11_view_45 rfl (lv_at hl 2 rfl) ?_
          refine gf_this_8 hx hb hts hiX11 hown hK hn hH lk0 dX11_view_46 ?_
          rw [← eo11]
          refine gf_w_0 hx hb hts hiX10 hown hK hn hH ho11 lk1 dX11_view_49 ?_
          refine lv_iload hx hb dX11_view_52 (lv_at hl 1 rfl) ?_
          refine lv_iload_n hx hb dX11_view_54 rfl (lv_at hl 5 rfl) ?_
          obtain ⟨hi_14, hw⟩ := hw
          refine k_ist hx hb hK hH (w_lt hn ho11 1 (by decide)) (fun _ => (Ec_wv ho11)) hi_14 dX11_view_55 (fun S15 H locs eS15 hH => ?_)
          replace hw := hw S15 eS15
          refine lv_iload hx hb dX11_view_56 (lv_at hl 0 rfl) ?_
          exact k_iret hx hb hr hlocks hK hN hH hw dX11_view_58
        · replace hw := hw.2 hc8
          refine lv_iconst (v := -1) hx hb dX11_view_24 (by decide +kernel) ?_
          exact k_iret hx hb hr hlocks hK hN hH hw dX11_view_25
def wp_X11_viewOf (a1 : Int32) (a2 : Int32) (S : St) (Q : Int32 → St → Prop) : Prop := wp_X11_isPlace a1 S (fun r2 S1 => ((r2 = 0 → Q (-1 : Int32) S1) ∧ (¬ r2 = 0 → wp_X11_isDay a2 S1 (fun r5 S4 => ((r5 = 0 → Q (-1 : Int32) S4) ∧ (¬ r5 = 0 → (∀ o7 : Nat, o7 = (gN S4 0 8) → isW o7 ∧ wp_X11_viewSlot a1 a2 S4 (fun r9 S8 => (vp_in r9 200 ∧ Q (gA S8 (o7 + 1) r9.toNatClampNeg) S8)))))))))
set_option maxHeartbeats 4000000 in
set_option maxRecDepth 100000 in
theorem c_X11_viewOf (l : Launch) (D : va_G) (kA : Nat → ClassId) (ly : Nat → Nat) (n : List Nat) (hn : ∀ c, c < 59 → c ∈ n) (A : Nat → Prop) (a1 : Int32) (a2 : Int32) : Ci l yX11_viewOf wsX11_viewOf 1 21 (Gp D (Ec kA ly) ly n A kA) A [.ref (ly 0), .int a1, .int a2] (wp_X11_viewOf a1 a2) := by
  intro S Q
  refine Met.ofW (cc := cX11_viewOf) (maxL := 3) (ret := (some .int)) (by decide) rfl ?_
  intro p e s m args below meth c s₁ B hml hv
  obtain ⟨rfl, ⟨hP, hD, hK, hN⟩, hw⟩ := hv
  have hx := B.exec
  have hb := B.bytes
  have hr := B.returns
  have hts := atoms_spec (ws := wsX11_viewOf) B.pre
  have hown : s.vm.findClass RX11 = some m.cls := findClass_of_methodNamed B.named
  have hlocks := B.notSynchronized
  have hH : Hp D (Ec kA ly) ly n A s.heap S s.heap [] := ⟨hP, hD, va_S.rf⟩
  have hiX11 : ∀ w ∈ u_ws RX11 TX11 12, w ∈ wsX11_viewOf := by decide +kernel
  have hiX10 : ∀ w ∈ u_ws RX10 TX10 6, w ∈ wsX11_viewOf := by decide +kernel
  have lk0 := hts (.fieldLink RX11 53 "SlowPanes" "world" "LSlowPanes$World;") (by decide +kernel)
  have lk1 := hts (.fieldLink RX11 98 "SlowPanes$World" "views" "[I") (by decide +kernel)
  have hl := lv_entry ([.ref (ly 0), .int a1, .int a2]) (n := 3) (Nat.le_of_ble_eq_true rfl)
  rw [lg_entry_eq]
  generalize (lg_sl ([.ref (ly 0), .int a1, .int a2]) ++ List.replicate (3 - (lg_sl ([.ref (ly 0), .int a1, .int a2])).length) Slot.unset).toArray = ls at hl ⊢
  have hl : lv_has ls 3 [(0, .ref (ly 0)), (1, .int a1), (2, .int a2)] := hl
  rw [wp_X11_viewOf] at hw
  refine lv_iload_n hx hb dX11_viewOf_0 rfl (lv_at hl 1 rfl) ?_
  refine k_afti (va_runS (As := [.int a1]) (rest := []) ⟨hx, hb, hml, hown, hts⟩ (c_X11_isPlace l D kA ly n hn A a1 S _) (va_cwS 1 hts gX11_viewOf_X11_isPlace rfl rfl rfl (by decide +kernel) ⟨(Nat.le_of_ble_eq_true rfl), (Nat.le_of_ble_eq_true rfl)⟩) ⟨k_blind, k_pre hK hN hH hw⟩ rfl rfl hl.1 rfl (lv_room (Nat.le_of_ble_eq_true rfl)) dX11_viewOf_1 ⟨Nat.le_refl _, Nat.le_refl _⟩) hH (fun r2 S1 H locs hw hH => ?_)
  refine lv_if_eq (tgt := 14) hx hb dX11_viewOf_4 (by decide) (fun hc3 => ?_) (fun hc3 => ?_)
  · replace hw := hw.1 hc3
    refine lv_iconst (v := -1) hx hb dX11_viewOf_14 (by decide +kernel) ?_
    exact k_iret hx hb hr hlocks hK hN hH hw dX11_viewOf_15
  · replace hw := hw.2 hc3
    refine lv_iload_n hx hb dX11_viewOf_7 rfl (lv_at hl 2 rfl) ?_
    refine k_afti (va_runS (As := [.int a2]) (rest := []) ⟨hx, hb, hml, hown, hts⟩ (c_X11_isDay l D kA ly n hn A a2 S1 _) (va_cwS 1 hts gX11_viewOf_X11_isDay rfl rfl rfl (by decide +kernel) ⟨(Nat.le_of_ble_eq_true rfl), (Nat.le_of_ble_eq_true rfl)⟩) ⟨k_blind, k_pre hK hN hH hw⟩ rfl rfl hl.1 rfl (lv_room (Nat.le_of_ble_eq_true rfl)) dX11_viewOf_8 ⟨Nat.le_refl _, Nat.le_refl _⟩) hH (fun r5 S4 H locs hw hH => ?_)
    refine lv_if_ne (tgt := 16) hx hb dX11_viewOf_11 (by decide) (fun hc6 => ?_) (fun hc6 => ?_)
    · replace hw := hw.2 hc6
      refine lv_aload_n hx hb dX11_viewOf_16 rfl (lv_at hl 0 rfl) ?_
      refine gf_this_8 hx hb hts hiX11 hown hK hn hH lk0 dX11_viewOf_17 ?_
      obtain ⟨o7, eo7⟩ : ∃ y : Nat, y = (gN S4 0 8) := ⟨_, rfl⟩
      obtain ⟨ho7, hw⟩ := hw o7 eo7
      rw [← eo7]
      refine gf_w_0 hx hb hts hiX10 hown hK hn hH ho7 lk1 dX11_viewOf_20 ?_
      refine lv_iload_n hx hb dX11_viewOf_23 rfl (lv_at hl 1 rfl) ?_
      refine lv_iload_n hx hb dX11_viewOf_24 rfl (lv_at hl 2 rfl) ?_
      refine k_afti (va_runS (As := [.int a1, .int a2]) (rest := [.ref (ly (o7 + 1))]) ⟨hx, hb, hml, hown, hts⟩ (c_X11_viewSlot l D kA ly n hn A a1 a2 S4 _) (va_cwS 2 hts gX11_viewOf_X11_viewSlot rfl rfl rfl (by decide +kernel) ⟨(Nat.le_of_ble_eq_true rfl), (Nat.le_of_ble_eq_true rfl)⟩) ⟨k_blind, k_pre hK hN hH hw⟩ rfl rfl hl.1 rfl (lv_room (Nat.le_of_ble_eq_true rfl)) dX11_viewOf_25 ⟨Nat.le_refl _, Nat.le_refl _⟩) hH (fun r9 S8 H locs hw hH => ?_)
      obtain ⟨hi_10, hw⟩ := hw
      refine k_ild hx hb hK hH (w_lt hn ho7 1 (by decide)) (Ec_wv ho7) hi_10 dX11_viewOf_28 ?_
      exact k_iret hx hb hr hlocks hK hN hH hw dX11_viewOf_29
    · replace hw := hw.1 hc6
      refine lv_iconst (v := -1) hx hb dX11_viewOf_14 (by decide +kernel) ?_
      exact k_iret hx hb hr hlocks hK hN hH hw dX11_viewOf_15
def wp_X11_isLooker (a0 : Int32) (S : St) (Q : Int32 → St → Prop) : Prop := ((a0 < 0 → Q (0 : Int32) S) ∧ (¬ a0 < 0 → (((3 : Int32) ≤ a0 → Q (0 : Int32) S) ∧ (¬ (3 : Int32) ≤ a0 → Q (1 : Int32) S))))
set_option maxHeartbeats 4000000 in
set_option maxRecDepth 100000 in
theorem c_X11_isLooker (l : Launch) (D : va_G) (kA : Nat → ClassId) (ly : Nat → Nat) (n : List Nat) (hn : ∀ c, c < 59 → c ∈ n) (A : Nat → Prop) (a0 : Int32) : Ci l yX11_isLooker wsX11_isLooker 0 0 (Gp D (Ec kA ly) ly n A kA) A [.int a0] (wp_X11_isLooker a0) := by
  intro S Q
  refine Met.ofW (cc := cX11_isLooker) (maxL := 1) (ret := (some .boolean)) (by decide) rfl ?_
  intro p e s m args below meth c s₁ B hml hv
  obtain ⟨rfl, ⟨hP, hD, hK, hN⟩, hw⟩ := hv
  have hx := B.exec
  have hb := B.bytes
  have hr := B.returns
  have hts := atoms_spec (ws := wsX11_isLooker) B.pre
  have hown : s.vm.findClass RX11 = some m.cls := findClass_of_methodNamed B.named
  have hlocks := B.notSynchronized
  have hH : Hp D (Ec kA ly) ly n A s.heap S s.heap [] := ⟨hP, hD, va_S.rf⟩
  have hl := lv_entry ([.int a0]) (n := 1) (Nat.le_of_ble_eq_true rfl)
  rw [lg_entry_eq]
  generalize (lg_sl ([.int a0]) ++ List.replicate (1 - (lg_sl ([.int a0])).length) Slot.unset).toArray = ls at hl ⊢
  have hl : lv_has ls 1 [(0, .int a0)] := hl
  rw [wp_X11_isLooker] at hw
  refine lv_iload_n hx hb dX11_isLooker_0 rfl (lv_at hl 0 rfl) ?_
  refine lv_if_lt (tgt := 13) hx hb dX11_isLooker_1 (by decide) (fun hc1 => ?_) (fun hc1 => ?_)
  · replace hw := hw.1 hc1
    refine lv_iconst (v := 0) hx hb dX11_isLooker_13 (by decide +kernel) ?_
    exact k_zret hx hb hr hlocks hK hN hH rfl hw dX11_isLooker_14
  · replace hw := hw.2 hc1
    refine lv_iload_n hx hb dX11_isLooker_4 rfl (lv_at hl 0 rfl) ?_
    refine lv_iconst (v := 3) hx hb dX11_isLooker_5 (by decide +kernel) ?_
    refine lv_icmp_ge (tgt := 13) hx hb dX11_isLooker_6 (by decide) (fun hc2 => ?_) (fun hc2 => ?_)
    · replace hw := hw.1 hc2
      refine lv_iconst (v := 0) hx hb dX11_isLooker_13 (by decide +kernel) ?_
      exact k_zret hx hb hr hlocks hK hN hH rfl hw dX11_isLooker_14
    · replace hw := hw.2 hc2
      refine lv_iconst (v := 1) hx hb dX11_isLooker_9 (by decide +kernel) ?_
      refine lv_goto (tgt := 14) hx hb dX11_isLooker_10 (by decide) ?_
      exact k_zret hx hb hr hlocks hK hN hH rfl hw dX11_isLooker_14
def wp_X11_love (a1 : Int32) (a2 : Int32) (a3 : Int32) (S : St) (Q : Int32 → St → Prop) : Prop := wp_X11_isLooker a1 S (fun r2 S1 => ((r2 = 0 → Q (-1 : Int32) S1) ∧ (¬ r2 = 0 → wp_X11_isPlace a2 S1 (fun r5 S4 => ((r5 = 0 → Q (-1 : Int32) S4) ∧ (¬ r5 = 0 → ((a3 < 0 → Q (-1 : Int32) S4) ∧ (¬ a3 < 0 → ((a3 ≤ (9 : Int32) → wp_X11_loveSlot a1 a2 S4 (fun r10 S9 => (∀ o11 : Nat, o11 = (gN S9 0 8) → isW o11 ∧ (vp_in r10 12 ∧ (∀ t13 : Int32, t13 = (gA S9 (o11 + 2) r10.toNatClampNeg) → (vp_in r10 12 ∧ ∀ S15 : St, S15 = sA S9 (o11 + 2) r10.toNatClampNeg a3 → Q t13 S15)))))) ∧ (¬ a3 ≤ (9 : Int32) → Q (-1 : Int32) S4))))))))))
set_option maxHeartbeats 4000000 in
set_option maxRecDepth 100000 in
theorem c_X11_love (l : Launch) (D : va_G) (kA : Nat → ClassId) (ly : Nat → Nat) (n : List Nat) (hn : ∀ c, c < 59 → c ∈ n) (A : Nat → Prop) (a1 : Int32) (a2 : Int32) (a3 : Int32) : Ci l yX11_love wsX11_love 1 21 (Gp D (Ec kA ly) ly n A kA) A [.ref (ly 0), .int a1, .int a2, .int a3] (wp_X11_love a1 a2 a3) := by
  intro S Q
  refine Met.ofW (cc := cX11_love) (maxL := 6) (ret := (some .int)) (by decide) rfl ?_
  intro p e s m args below meth c s₁ B hml hv
  obtain ⟨rfl, ⟨hP, hD, hK, hN⟩, hw⟩ := hv
  have hx := B.exec
  have hb := B.bytes
  have hr := B.returns
  have hts := atoms_spec (ws := wsX11_love) B.pre
  have hown : s.vm.findClass RX11 = some m.cls := findClass_of_methodNamed B.named
  have hlocks := B.notSynchronized
  have hH : Hp D (Ec kA ly) ly n A s.heap S s.heap [] := ⟨hP, hD, va_S.rf⟩
  have hiX11 : ∀ w ∈ u_ws RX11 TX11 12, w ∈ wsX11_love := by decide +kernel
  have hiX10 : ∀ w ∈ u_ws RX10 TX10 6, w ∈ wsX11_love := by decide +kernel
  have lk0 := hts (.fieldLink RX11 53 "SlowPanes" "world" "LSlowPanes$World;") (by decide +kernel)
  have lk1 := hts (.fieldLink RX11 107 "SlowPanes$World" "loves" "[I") (by decide +kernel)
  have hl := lv_entry ([.ref (ly 0), .int a1, .int a2, .int a3]) (n := 6) (Nat.le_of_ble_eq_true rfl)
  rw [lg_entry_eq]
  generalize (lg_sl ([.ref (ly 0), .int a1, .int a2, .int a3]) ++ List.replicate (6 - (lg_sl ([.ref (ly 0), .int a1, .int a2, .int a3])).length) Slot.unset).toArray = ls at hl ⊢
  have hl : lv_has ls 6 [(0, .ref (ly 0)), (1, .int a1), (2, .int a2), (3, .int a3)] := hl
  rw [wp_X11_love] at hw
  refine lv_iload_n hx hb dX11_love_0 rfl (lv_at hl 1 rfl) ?_
  refine k_afti (va_runS (As := [.int a1]) (rest := []) ⟨hx, hb, hml, hown, hts⟩ (c_X11_isLooker l D kA ly n hn A a1 S _) (va_cwS 1 hts gX11_love_X11_isLooker rfl rfl rfl (by decide +kernel) ⟨(Nat.le_of_ble_eq_true rfl), (Nat.le_of_ble_eq_true rfl)⟩) ⟨k_blind, k_pre hK hN hH hw⟩ rfl rfl hl.1 rfl (lv_room (Nat.le_of_ble_eq_true rfl)) dX11_love_1 ⟨Nat.le_refl _, Nat.le_refl _⟩) hH (fun r2 S1 H locs hw hH => ?_)
  refine lv_if_eq (tgt := 24) hx hb dX11_love_4 (by decide) (fun hc3 => ?_) (fun hc3 => ?_)
  · replace hw := hw.1 hc3
    refine lv_iconst (v := -1) hx hb dX11_love_24 (by decide +kernel) ?_
    exact k_iret hx hb hr hlocks hK hN hH hw dX11_love_25
  · replace hw := hw.2 hc3
    refine lv_iload_n hx hb dX11_love_7 rfl (lv_at hl 2 rfl) ?_
    refine k_afti (va_runS (As := [.int a2]) (rest := []) ⟨hx, hb, hml, hown, hts⟩ (c_X11_isPlace l D kA ly n hn A a2 S1 _) (va_cwS 1 hts gX11_love_X11_isPlace rfl rfl rfl (by decide +kernel) ⟨(Nat.le_of_ble_eq_true rfl), (Nat.le_of_ble_eq_true rfl)⟩) ⟨k_blind, k_pre hK hN hH hw⟩ rfl rfl hl.1 rfl (lv_room (Nat.le_of_ble_eq_true rfl)) dX11_love_8 ⟨Nat.le_refl _, Nat.le_refl _⟩) hH (fun r5 S4 H locs hw hH => ?_)
    refine lv_if_eq (tgt := 24) hx hb dX11_love_11 (by decide) (fun hc6 => ?_) (fun hc6 => ?_)
    · replace hw := hw.1 hc6
      refine lv_iconst (v := -1) hx hb dX11_love_24 (by decide +kernel) ?_
      exact k_iret hx hb hr hlocks hK hN hH hw dX11_love_25
    · replace hw := hw.2 hc6
      refine lv_iload_n hx hb dX11_love_14 rfl (lv_at hl 3 rfl) ?_
      refine lv_if_lt (tgt := 24) hx hb dX11_love_15 (by decide) (fun hc7 => ?_) (fun hc7 => ?_)
      · replace hw := hw.1 hc7
        refine lv_iconst (v := -1) hx hb dX11_love_24 (by decide +kernel) ?_
        exact k_iret hx hb hr hlocks hK hN hH hw dX11_love_25
      · replace hw := hw.2 hc7
        refine lv_iload_n hx hb dX11_love_18 rfl (lv_at hl 3 rfl) ?_
        refine lv_bipush (v := 9) hx hb dX11_love_19 (by decide +kernel) ?_
        refine lv_icmp_le (tgt := 26) hx hb dX11_love_21 (by decide) (fun hc8 => ?_) (fun hc8 => ?_)
        · replace hw := hw.1 hc8
          refine lv_iload_n hx hb dX11_love_26 rfl (lv_at hl 1 rfl) ?_
          refine lv_iload_n hx hb dX11_love_27 rfl (lv_at hl 2 rfl) ?_
          refine k_afti (va_runS (As := [.int a1, .int a2]) (rest := []) ⟨hx, hb, hml, hown, hts⟩ (c_X11_loveSlot l D kA ly n hn A a1 a2 S4 _) (va_cwS 2 hts gX11_love_X11_loveSlot rfl rfl rfl (by decide +kernel) ⟨(Nat.le_of_ble_eq_true rfl), (Nat.le_of_ble_eq_true rfl)⟩) ⟨k_blind, k_pre hK hN hH hw⟩ rfl rfl hl.1 rfl (lv_room (Nat.le_of_ble_eq_true rfl)) dX11_love_28 ⟨Nat.le_refl _, Nat.le_refl _⟩) hH (fun r10 S9 H locs hw hH => ?_)
          refine lv_istore (lv' := [(4, .int r10), (0, .ref (ly 0)), (1, .int a1), (2, .int a2), (3, .int a3)]) hx hb dX11_love_31 hl (by decide) rfl (fun ls hl => ?_)
          refine lv_aload_n hx hb dX11_love_33 rfl (lv_at hl 1 rfl) ?_
          refine gf_this_8 hx hb hts hiX11 hown hK hn hH lk0 dX11_love_34 ?_
          obtain ⟨o11, eo11⟩ : ∃ y : Nat, y = (gN S9 0 8) := ⟨_, rfl⟩
          obtain ⟨ho11, hw⟩ := hw o11 eo11
          rw [← eo11]
          refine gf_w_1 hx hb hts hiX10 hown hK hn hH ho11 lk1 dX11_love_37 ?_
          refine lv_iload hx hb dX11_love_40 (lv_at hl 0 rfl) ?_
          obtain ⟨hi_12, hw⟩ := hw
          refine k_ild hx hb hK hH (w_lt hn ho11 2 (by decide)) (Ec_wl ho11) hi_12 dX11_love_42 ?_
          refine lv_topi (fun t13 et13 => ?_)
          replace hw := hw t13 et13
          refine lv_istore (lv' := [(5, .int t13), (4, .int r10), (0, .ref (ly 0)), (1, .int a1), (2, .int a2), (3, .int a3)]) hx hb dX11_love_43 hl (by decide) rfl (fun ls hl => ?_)
          refine lv_aload_n hx hb dX11_love_45 rfl (lv_at hl 2 rfl) ?_
          refine gf_this_8 hx hb hts hiX11 hown hK hn hH lk0 dX11_love_46 ?_
          rw [← eo11]
          refine gf_w_1 hx hb hts hiX10 hown hK hn hH ho11 lk1 dX11_love_49 ?_
          refine lv_iload hx hb dX11_love_52 (lv_at hl 1 rfl) ?_
          refine lv_iload_n hx hb dX11_love_54 rfl (lv_at hl 5 rfl) ?_
          obtain ⟨hi_14, hw⟩ := hw
          refine k_ist hx hb hK hH (w_lt hn ho11 2 (by decide)) (fun _ => (Ec_wl ho11)) hi_14 dX11_love_55 (fun S15 H locs eS15 hH => ?_)
          replace hw := hw S15 eS15
          refine lv_iload hx hb dX11_love_56 (lv_at hl 0 rfl) ?_
          exact k_iret hx hb hr hlocks hK hN hH hw dX11_love_58
        · replace hw := hw.2 hc8
          refine lv_iconst (v := -1) hx hb dX11_love_24 (by decide +kernel) ?_
          exact k_iret hx hb hr hlocks hK hN hH hw dX11_love_25
def wp_X11_isKind (a0 : Int32) (S : St) (Q : Int32 → St → Prop) : Prop := ((a0 < 0 → Q (0 : Int32) S) ∧ (¬ a0 < 0 → (((6 : Int32) ≤ a0 → Q (0 : Int32) S) ∧ (¬ (6 : Int32) ≤ a0 → Q (1 : Int32) S))))
set_option maxHeartbeats 4000000 in
set_option maxRecDepth 100000 in
theorem c_X11_isKind (l : Launch) (D : va_G) (kA : Nat → ClassId) (ly : Nat → Nat) (n : List Nat) (hn : ∀ c, c < 59 → c ∈ n) (A : Nat → Prop) (a0 : Int32) : Ci l yX11_isKind wsX11_isKind 0 0 (Gp D (Ec kA ly) ly n A kA) A [.int a0] (wp_X11_isKind a0) := by
  intro S Q
  refine Met.ofW (cc := cX11_isKind) (maxL := 1) (ret := (some .boolean)) (by decide) rfl ?_
  intro p e s m args below meth c s₁ B hml hv
  obtain ⟨rfl, ⟨hP, hD, hK, hN⟩, hw⟩ := hv
  have hx := B.exec
  have hb := B.bytes
  have hr := B.returns
  have hts := atoms_spec (ws := wsX11_isKind) B.pre
  have hown : s.vm.findClass RX11 = some m.cls := findClass_of_methodNamed B.named
  have hlocks := B.notSynchronized
  have hH : Hp D (Ec kA ly) ly n A s.heap S s.heap [] := ⟨hP, hD, va_S.rf⟩
  have hl := lv_entry ([.int a0]) (n := 1) (Nat.le_of_ble_eq_true rfl)
  rw [lg_entry_eq]
  generalize (lg_sl ([.int a0]) ++ List.replicate (1 - (lg_sl ([.int a0])).length) Slot.unset).toArray = ls at hl ⊢
  have hl : lv_has ls 1 [(0, .int a0)] := hl
  rw [wp_X11_isKind] at hw
  refine lv_iload_n hx hb dX11_isKind_0 rfl (lv_at hl 0 rfl) ?_
  refine lv_if_lt (tgt := 14) hx hb dX11_isKind_1 (by decide) (fun hc1 => ?_) (fun hc1 => ?_)
  · replace hw := hw.1 hc1
    refine lv_iconst (v := 0) hx hb dX11_isKind_14 (by decide +kernel) ?_
    exact k_zret hx hb hr hlocks hK hN hH rfl hw dX11_isKind_15
  · replace hw := hw.2 hc1
    refine lv_iload_n hx hb dX11_isKind_4 rfl (lv_at hl 0 rfl) ?_
    refine lv_bipush (v := 6) hx hb dX11_isKind_5 (by decide +kernel) ?_
    refine lv_icmp_ge (tgt := 14) hx hb dX11_isKind_7 (by decide) (fun hc2 => ?_) (fun hc2 => ?_)
    · replace hw := hw.1 hc2
      refine lv_iconst (v := 0) hx hb dX11_isKind_14 (by decide +kernel) ?_
      exact k_zret hx hb hr hlocks hK hN hH rfl hw dX11_isKind_15
    · replace hw := hw.2 hc2
      refine lv_iconst (v := 1) hx hb dX11_isKind_10 (by decide +kernel) ?_
      refine lv_goto (tgt := 15) hx hb dX11_isKind_11 (by decide) ?_
      exact k_zret hx hb hr hlocks hK hN hH rfl hw dX11_isKind_15
def wp_X11_pane (a1 : Int32) (a2 : Int32) (S : St) (Q : Int32 → St → Prop) : Prop := wp_X11_isKind a1 S (fun r2 S1 => ((r2 = 0 → Q (-1 : Int32) S1) ∧ (¬ r2 = 0 → ((a2 < (1 : Int32) → Q (-1 : Int32) S1) ∧ (¬ a2 < (1 : Int32) → ((a2 ≤ (16 : Int32) → (∀ o6 : Nat, o6 = (gN S1 0 8) → isW o6 ∧ wp_X10_isFull o6 S1 (fun r8 S7 => ((r8 = 0 → (∀ o10 : Nat, o10 = (gN S7 0 8) → isW o10 ∧ wp_X10_addPane o10 a1 a2 S7 (fun o12 S11 => isPn o12 ∧ (∀ o13 : Nat, o13 = (gN S11 0 8) → isW o13 ∧ Q ((gI S11 o13 3) - (1 : Int32)) S11)))) ∧ (¬ r8 = 0 → Q (-2 : Int32) S7))))) ∧ (¬ a2 ≤ (16 : Int32) → Q (-1 : Int32) S1)))))))
set_option maxHeartbeats 4000000 in
set_option maxRecDepth 100000 in
theorem c_X11_pane (l : Launch) (D : va_G) (kA : Nat → ClassId) (ly : Nat → Nat) (n : List Nat) (hn : ∀ c, c < 59 → c ∈ n) (A : Nat → Prop) (a1 : Int32) (a2 : Int32) : Ci l yX11_pane wsX11_pane 3 68 (Gp D (Ec kA ly) ly n A kA) A [.ref (ly 0), .int a1, .int a2] (wp_X11_pane a1 a2) := by
  intro S Q
  refine Met.ofW (cc := cX11_pane) (maxL := 3) (ret := (some .int)) (by decide) rfl ?_
  intro p e s m args below meth c s₁ B hml hv
  obtain ⟨rfl, ⟨hP, hD, hK, hN⟩, hw⟩ := hv
  have hx := B.exec
  have hb := B.bytes
  have hr := B.returns
  have hts := atoms_spec (ws := wsX11_pane) B.pre
  have hown : s.vm.findClass RX11 = some m.cls := findClass_of_methodNamed B.named
  have hlocks := B.notSynchronized
  have hH : Hp D (Ec kA ly) ly n A s.heap S s.heap [] := ⟨hP, hD, va_S.rf⟩
  have hiX11 : ∀ w ∈ u_ws RX11 TX11 12, w ∈ wsX11_pane := by decide +kernel
  have hiX10 : ∀ w ∈ u_ws RX10 TX10 6, w ∈ wsX11_pane := by decide +kernel
  have lk0 := hts (.fieldLink RX11 53 "SlowPanes" "world" "LSlowPanes$World;") (by decide +kernel)
  have lk1 := hts (.fieldLink RX11 84 "SlowPanes$World" "count" "I") (by decide +kernel)
  have hl := lv_entry ([.ref (ly 0), .int a1, .int a2]) (n := 3) (Nat.le_of_ble_eq_true rfl)
  rw [lg_entry_eq]
  generalize (lg_sl ([.ref (ly 0), .int a1, .int a2]) ++ List.replicate (3 - (lg_sl ([.ref (ly 0), .int a1, .int a2])).length) Slot.unset).toArray = ls at hl ⊢
  have hl : lv_has ls 3 [(0, .ref (ly 0)), (1, .int a1), (2, .int a2)] := hl
  rw [wp_X11_pane] at hw
  refine lv_iload_n hx hb dX11_pane_0 rfl (lv_at hl 1 rfl) ?_
  refine k_afti (va_runS (As := [.int a1]) (rest := []) ⟨hx, hb, hml, hown, hts⟩ (c_X11_isKind l D kA ly n hn A a1 S _) (va_cwS 1 hts gX11_pane_X11_isKind rfl rfl rfl (by decide +kernel) ⟨(Nat.le_of_ble_eq_true rfl), (Nat.le_of_ble_eq_true rfl)⟩) ⟨k_blind, k_pre hK hN hH hw⟩ rfl rfl hl.1 rfl (lv_room (Nat.le_of_ble_eq_true rfl)) dX11_pane_1 ⟨Nat.le_refl _, Nat.le_refl _⟩) hH (fun r2 S1 H locs hw hH => ?_)
  refine lv_if_eq (tgt := 18) hx hb dX11_pane_4 (by decide) (fun hc3 => ?_) (fun hc3 => ?_)
  · replace hw := hw.1 hc3
    refine lv_iconst (v := -1) hx hb dX11_pane_18 (by decide +kernel) ?_
    exact k_iret hx hb hr hlocks hK hN hH hw dX11_pane_19
  · replace hw := hw.2 hc3
    refine lv_iload_n hx hb dX11_pane_7 rfl (lv_at hl 2 rfl) ?_
    refine lv_iconst (v := 1) hx hb dX11_pane_8 (by decide +kernel) ?_
    refine lv_icmp_lt (tgt := 18) hx hb dX11_pane_9 (by decide) (fun hc4 => ?_) (fun hc4 => ?_)
    · replace hw := hw.1 hc4
      refine lv_iconst (v := -1) hx hb dX11_pane_18 (by decide +kernel) ?_
      exact k_iret hx hb hr hlocks hK hN hH hw dX11_pane_19
    · replace hw := hw.2 hc4
      refine lv_iload_n hx hb dX11_pane_12 rfl (lv_at hl 2 rfl) ?_
      refine lv_bipush (v := 16) hx hb dX11_pane_13 (by decide +kernel) ?_
      refine lv_icmp_le (tgt := 20) hx hb dX11_pane_15 (by decide) (fun hc5 => ?_) (fun hc5 => ?_)
      · replace hw := hw.1 hc5
        refine lv_aload_n hx hb dX11_pane_20 rfl (lv_at hl 0 rfl) ?_
        refine gf_this_8 hx hb hts hiX11 hown hK hn hH lk0 dX11_pane_21 ?_
        obtain ⟨o6, eo6⟩ : ∃ y : Nat, y = (gN S1 0 8) := ⟨_, rfl⟩
        obtain ⟨ho6, hw⟩ := hw o6 eo6
        rw [← eo6]
        refine k_afti (va_runV (As := []) (rest := []) ⟨hx, hb, hml, hown, hts⟩ (c_X10_isFull l D kA ly n hn A o6 S1 _) (cwV 0 hts gX11_pane_X10_isFull rfl rfl rfl (by decide +kernel) ⟨(Nat.le_of_ble_eq_true rfl), (Nat.le_of_ble_eq_true rfl)⟩) ⟨k_blind, (k_recv hK hH (w_lt0 hn ho6) (Ec_w ho6) rfl), k_pre hK hN hH hw⟩ rfl rfl hl.1 rfl (lv_room (Nat.le_of_ble_eq_true rfl)) dX11_pane_24 ⟨Nat.le_refl _, Nat.le_refl _⟩) hH (fun r8 S7 H locs hw hH => ?_)
        refine lv_if_eq (tgt := 33) hx hb dX11_pane_27 (by decide) (fun hc9 => ?_) (fun hc9 => ?_)
        · replace hw := hw.1 hc9
          refine lv_aload_n hx hb dX11_pane_33 rfl (lv_at hl 0 rfl) ?_
          refine gf_this_8 hx hb hts hiX11 hown hK hn hH lk0 dX11_pane_34 ?_
          obtain ⟨o10, eo10⟩ : ∃ y : Nat, y = (gN S7 0 8) := ⟨_, rfl⟩
          obtain ⟨ho10, hw⟩ := hw o10 eo10
          rw [← eo10]
          refine lv_iload_n hx hb dX11_pane_37 rfl (lv_at hl 1 rfl) ?_
          refine lv_iload_n hx hb dX11_pane_38 rfl (lv_at hl 2 rfl) ?_
          refine k_aftr (va_runV (As := [.int a1, .int a2]) (rest := []) ⟨hx, hb, hml, hown, hts⟩ (c_X10_addPane l D kA ly n hn A o10 a1 a2 S7 _) (cwV 2 hts gX11_pane_X10_addPane rfl rfl rfl (by decide +kernel) ⟨(Nat.le_of_ble_eq_true rfl), (Nat.le_of_ble_eq_true rfl)⟩) ⟨k_blind, (k_recv hK hH (w_lt0 hn ho10) (Ec_w ho10) rfl), k_pre hK hN hH hw⟩ rfl rfl hl.1 rfl (lv_room (Nat.le_of_ble_eq_true rfl)) dX11_pane_39 ⟨Nat.le_refl _, Nat.le_refl _⟩) hH (fun o12 S11 H locs hw hH => ?_)
          obtain ⟨ho12, hw⟩ := hw
          refine lv_pop hx hb dX11_pane_42 rfl ?_
          refine lv_aload_n hx hb dX11_pane_43 rfl (lv_at hl 0 rfl) ?_
          refine gf_this_8 hx hb hts hiX11 hown hK hn hH lk0 dX11_pane_44 ?_
          obtain ⟨o13, eo13⟩ : ∃ y : Nat, y = (gN S11 0 8) := ⟨_, rfl⟩
          obtain ⟨ho13, hw⟩ := hw o13 eo13
          rw [← eo13]
          refine gf_w_3 hx hb hts hiX10 hown hK hn hH ho13 lk1 dX11_pane_47 ?_
          refine lv_iconst (v := 1) hx hb dX11_pane_50 (by decide +kernel) ?_
          refine lv_isub hx hb dX11_pane_51 ?_
          exact k_iret hx hb hr hlocks hK hN hH hw dX11_pane_52
        · replace hw := hw.2 hc9
          refine lv_bipush (v := -2) hx hb dX11_pane_30 (by decide +kernel) ?_
          exact k_iret hx hb hr hlocks hK hN hH hw dX11_pane_32
      · replace hw := hw.2 hc5
        refine lv_iconst (v := -1) hx hb dX11_pane_18 (by decide +kernel) ?_
        exact k_iret hx hb hr hlocks hK hN hH hw dX11_pane_19
