def wp_X12_in (a0 : Int32) (a1 : Int32) (a2 : Int32) (S : St) (Q : Int32 → St → Prop) : Prop := ((a0 < a1 → Q (0 : Int32) S) ∧ (¬ a0 < a1 → ((a2 < a0 → Q (0 : Int32) S) ∧ (¬ a2 < a0 → Q (1 : Int32) S))))
set_option maxHeartbeats 4000000 in
set_option maxRecDepth 100000 in
theorem c_X12_in (l : Launch) (D : va_G) (kA : Nat → ClassId) (ly : Nat → Nat) (n : List Nat) (hn : ∀ c, c < 20 → c ∈ n) (A : Nat → Prop) (a0 : Int32) (a1 : Int32) (a2 : Int32) : Ci l yX12_in wsX12_in 0 0 (Gp D (Er kA ly) ly n A kA) A [.int a0, .int a1, .int a2] (wp_X12_in a0 a1 a2) := by
  intro S Q
  refine Met.ofW (cc := cX12_in) (maxL := 3) (ret := (some .boolean)) (by decide) rfl ?_
  intro p e s m args below meth c s₁ B hml hv
  obtain ⟨rfl, ⟨hP, hD, hK, hN⟩, hw⟩ := hv
  have hx := B.exec
  have hb := B.bytes
  have hr := B.returns
  have hts := atoms_spec (ws := wsX12_in) B.pre
  have hown : s.vm.findClass RX12 = some m.cls := findClass_of_methodNamed B.named
  have hlocks := B.notSynchronized
  have hH : Hp D (Er kA ly) ly n A s.heap S s.heap [] := ⟨hP, hD, va_S.rf⟩
  have hl := lv_entry ([.int a0, .int a1, .int a2]) (n := 3) (Nat.le_of_ble_eq_true rfl)
  rw [lg_entry_eq]
  generalize (lg_sl ([.int a0, .int a1, .int a2]) ++ List.replicate (3 - (lg_sl ([.int a0, .int a1, .int a2])).length) Slot.unset).toArray = ls at hl ⊢
  have hl : lv_has ls 3 [(0, .int a0), (1, .int a1), (2, .int a2)] := hl
  rw [wp_X12_in] at hw
  refine lv_iload_n hx hb dX12_in_0 rfl (lv_at hl 0 rfl) ?_
  refine lv_iload_n hx hb dX12_in_1 rfl (lv_at hl 1 rfl) ?_
  refine lv_icmp_lt (tgt := 14) hx hb dX12_in_2 (by decide) (fun hc1 => ?_) (fun hc1 => ?_)
  · replace hw := hw.1 hc1
    refine lv_iconst (v := 0) hx hb dX12_in_14 (by decide +kernel) ?_
    exact k_zret hx hb hr hlocks hK hN hH rfl hw dX12_in_15
  · replace hw := hw.2 hc1
    refine lv_iload_n hx hb dX12_in_5 rfl (lv_at hl 0 rfl) ?_
    refine lv_iload_n hx hb dX12_in_6 rfl (lv_at hl 2 rfl) ?_
    refine lv_icmp_gt (tgt := 14) hx hb dX12_in_7 (by decide) (fun hc2 => ?_) (fun hc2 => ?_)
    · replace hw := hw.1 hc2
      refine lv_iconst (v := 0) hx hb dX12_in_14 (by decide +kernel) ?_
      exact k_zret hx hb hr hlocks hK hN hH rfl hw dX12_in_15
    · replace hw := hw.2 hc2
      refine lv_iconst (v := 1) hx hb dX12_in_10 (by decide +kernel) ?_
      refine lv_goto (tgt := 15) hx hb dX12_in_11 (by decide) ?_
      exact k_zret hx hb hr hlocks hK hN hH rfl hw dX12_in_15
def wp_X12_isPlace (a0 : Int32) (S : St) (Q : Int32 → St → Prop) : Prop := wp_X12_in a0 (0 : Int32) (3 : Int32) S (fun r2 S1 => (isB r2 ∧ Q r2 S1))
set_option maxHeartbeats 4000000 in
set_option maxRecDepth 100000 in
theorem c_X12_isPlace (l : Launch) (D : va_G) (kA : Nat → ClassId) (ly : Nat → Nat) (n : List Nat) (hn : ∀ c, c < 20 → c ∈ n) (A : Nat → Prop) (a0 : Int32) : Ci l yX12_isPlace wsX12_isPlace 1 22 (Gp D (Er kA ly) ly n A kA) A [.int a0] (wp_X12_isPlace a0) := by
  intro S Q
  refine Met.ofW (cc := cX12_isPlace) (maxL := 1) (ret := (some .boolean)) (by decide) rfl ?_
  intro p e s m args below meth c s₁ B hml hv
  obtain ⟨rfl, ⟨hP, hD, hK, hN⟩, hw⟩ := hv
  have hx := B.exec
  have hb := B.bytes
  have hr := B.returns
  have hts := atoms_spec (ws := wsX12_isPlace) B.pre
  have hown : s.vm.findClass RX12 = some m.cls := findClass_of_methodNamed B.named
  have hlocks := B.notSynchronized
  have hH : Hp D (Er kA ly) ly n A s.heap S s.heap [] := ⟨hP, hD, va_S.rf⟩
  have hl := lv_entry ([.int a0]) (n := 1) (Nat.le_of_ble_eq_true rfl)
  rw [lg_entry_eq]
  generalize (lg_sl ([.int a0]) ++ List.replicate (1 - (lg_sl ([.int a0])).length) Slot.unset).toArray = ls at hl ⊢
  have hl : lv_has ls 1 [(0, .int a0)] := hl
  rw [wp_X12_isPlace] at hw
  refine lv_iload_n hx hb dX12_isPlace_0 rfl (lv_at hl 0 rfl) ?_
  refine lv_iconst (v := 0) hx hb dX12_isPlace_1 (by decide +kernel) ?_
  refine lv_iconst (v := 3) hx hb dX12_isPlace_2 (by decide +kernel) ?_
  refine k_afti (va_runS (As := [.int a0, .int (0 : Int32), .int (3 : Int32)]) (rest := []) ⟨hx, hb, hml, hown, hts⟩ (c_X12_in l D kA ly n hn A a0 (0 : Int32) (3 : Int32) S _) (va_cwS 3 hts gX12_isPlace_X12_in rfl rfl rfl (by decide +kernel) ⟨(Nat.le_of_ble_eq_true rfl), (Nat.le_of_ble_eq_true rfl)⟩) ⟨k_blind, k_pre hK hN hH hw⟩ rfl rfl hl.1 rfl (lv_room (Nat.le_of_ble_eq_true rfl)) dX12_isPlace_3 ⟨Nat.le_refl _, Nat.le_refl _⟩) hH (fun r2 S1 H locs hw hH => ?_)
  exact k_zret hx hb hr hlocks hK hN hH (isB_n hw.1) hw.2 dX12_isPlace_6
def wp_X12_isDay (a0 : Int32) (S : St) (Q : Int32 → St → Prop) : Prop := wp_X12_in a0 (0 : Int32) (49 : Int32) S (fun r2 S1 => (isB r2 ∧ Q r2 S1))
set_option maxHeartbeats 4000000 in
set_option maxRecDepth 100000 in
theorem c_X12_isDay (l : Launch) (D : va_G) (kA : Nat → ClassId) (ly : Nat → Nat) (n : List Nat) (hn : ∀ c, c < 20 → c ∈ n) (A : Nat → Prop) (a0 : Int32) : Ci l yX12_isDay wsX12_isDay 1 22 (Gp D (Er kA ly) ly n A kA) A [.int a0] (wp_X12_isDay a0) := by
  intro S Q
  refine Met.ofW (cc := cX12_isDay) (maxL := 1) (ret := (some .boolean)) (by decide) rfl ?_
  intro p e s m args below meth c s₁ B hml hv
  obtain ⟨rfl, ⟨hP, hD, hK, hN⟩, hw⟩ := hv
  have hx := B.exec
  have hb := B.bytes
  have hr := B.returns
  have hts := atoms_spec (ws := wsX12_isDay) B.pre
  have hown : s.vm.findClass RX12 = some m.cls := findClass_of_methodNamed B.named
  have hlocks := B.notSynchronized
  have hH : Hp D (Er kA ly) ly n A s.heap S s.heap [] := ⟨hP, hD, va_S.rf⟩
  have hl := lv_entry ([.int a0]) (n := 1) (Nat.le_of_ble_eq_true rfl)
  rw [lg_entry_eq]
  generalize (lg_sl ([.int a0]) ++ List.replicate (1 - (lg_sl ([.int a0])).length) Slot.unset).toArray = ls at hl ⊢
  have hl : lv_has ls 1 [(0, .int a0)] := hl
  rw [wp_X12_isDay] at hw
  refine lv_iload_n hx hb dX12_isDay_0 rfl (lv_at hl 0 rfl) ?_
  refine lv_iconst (v := 0) hx hb dX12_isDay_1 (by decide +kernel) ?_
  refine lv_bipush (v := 49) hx hb dX12_isDay_2 (by decide +kernel) ?_
  refine k_afti (va_runS (As := [.int a0, .int (0 : Int32), .int (49 : Int32)]) (rest := []) ⟨hx, hb, hml, hown, hts⟩ (c_X12_in l D kA ly n hn A a0 (0 : Int32) (49 : Int32) S _) (va_cwS 3 hts gX12_isDay_X12_in rfl rfl rfl (by decide +kernel) ⟨(Nat.le_of_ble_eq_true rfl), (Nat.le_of_ble_eq_true rfl)⟩) ⟨k_blind, k_pre hK hN hH hw⟩ rfl rfl hl.1 rfl (lv_room (Nat.le_of_ble_eq_true rfl)) dX12_isDay_4 ⟨Nat.le_refl _, Nat.le_refl _⟩) hH (fun r2 S1 H locs hw hH => ?_)
  exact k_zret hx hb hr hlocks hK hN hH (isB_n hw.1) hw.2 dX12_isDay_7
def wp_X12_isPane (a1 : Int32) (S : St) (Q : Int32 → St → Prop) : Prop := (vp_in (1 : Int32) 232 ∧ wp_X12_in a1 (0 : Int32) ((gA S 3 (1 : Int32).toNatClampNeg) - (1 : Int32)) S (fun r3 S2 => (isB r3 ∧ Q r3 S2)))
set_option maxHeartbeats 4000000 in
set_option maxRecDepth 100000 in
theorem c_X12_isPane (l : Launch) (D : va_G) (kA : Nat → ClassId) (ly : Nat → Nat) (n : List Nat) (hn : ∀ c, c < 20 → c ∈ n) (A : Nat → Prop) (a1 : Int32) : Ci l yX12_isPane wsX12_isPane 1 22 (Gp D (Er kA ly) ly n A kA) A [.ref (ly 0), .int a1] (wp_X12_isPane a1) := by
  intro S Q
  refine Met.ofW (cc := cX12_isPane) (maxL := 2) (ret := (some .boolean)) (by decide) rfl ?_
  intro p e s m args below meth c s₁ B hml hv
  obtain ⟨rfl, ⟨hP, hD, hK, hN⟩, hw⟩ := hv
  have hx := B.exec
  have hb := B.bytes
  have hr := B.returns
  have hts := atoms_spec (ws := wsX12_isPane) B.pre
  have hown : s.vm.findClass RX12 = some m.cls := findClass_of_methodNamed B.named
  have hlocks := B.notSynchronized
  have hH : Hp D (Er kA ly) ly n A s.heap S s.heap [] := ⟨hP, hD, va_S.rf⟩
  have hiX12 : ∀ w ∈ u_ws RX12 TX12 39, w ∈ wsX12_isPane := by decide +kernel
  have lk0 := hts (.fieldLink RX12 16 "SlowPanesModel" "row" "[I") (by decide +kernel)
  have hl := lv_entry ([.ref (ly 0), .int a1]) (n := 2) (Nat.le_of_ble_eq_true rfl)
  rw [lg_entry_eq]
  generalize (lg_sl ([.ref (ly 0), .int a1]) ++ List.replicate (2 - (lg_sl ([.ref (ly 0), .int a1])).length) Slot.unset).toArray = ls at hl ⊢
  have hl : lv_has ls 2 [(0, .ref (ly 0)), (1, .int a1)] := hl
  rw [wp_X12_isPane] at hw
  refine lv_iload_n hx hb dX12_isPane_0 rfl (lv_at hl 1 rfl) ?_
  refine lv_iconst (v := 0) hx hb dX12_isPane_1 (by decide +kernel) ?_
  refine lv_aload_n hx hb dX12_isPane_2 rfl (lv_at hl 0 rfl) ?_
  refine gf_r_2 hx hb hts hiX12 hown hK hn hH lk0 dX12_isPane_3 ?_
  refine lv_iconst (v := 1) hx hb dX12_isPane_6 (by decide +kernel) ?_
  obtain ⟨hi_1, hw⟩ := hw
  refine k_ild hx hb hK hH (hn _ (by decide)) Er_3 hi_1 dX12_isPane_7 ?_
  refine lv_iconst (v := 1) hx hb dX12_isPane_8 (by decide +kernel) ?_
  refine lv_isub hx hb dX12_isPane_9 ?_
  refine k_afti (va_runS (As := [.int a1, .int (0 : Int32), .int ((gA S 3 (1 : Int32).toNatClampNeg) - (1 : Int32))]) (rest := []) ⟨hx, hb, hml, hown, hts⟩ (c_X12_in l D kA ly n hn A a1 (0 : Int32) ((gA S 3 (1 : Int32).toNatClampNeg) - (1 : Int32)) S _) (va_cwS 3 hts gX12_isPane_X12_in rfl rfl rfl (by decide +kernel) ⟨(Nat.le_of_ble_eq_true rfl), (Nat.le_of_ble_eq_true rfl)⟩) ⟨k_blind, k_pre hK hN hH hw⟩ rfl rfl hl.1 rfl (lv_room (Nat.le_of_ble_eq_true rfl)) dX12_isPane_10 ⟨Nat.le_refl _, Nat.le_refl _⟩) hH (fun r3 S2 H locs hw hH => ?_)
  exact k_zret hx hb hr hlocks hK hN hH (isB_n hw.1) hw.2 dX12_isPane_13
def wp_X12_isLooker (a0 : Int32) (S : St) (Q : Int32 → St → Prop) : Prop := wp_X12_in a0 (0 : Int32) (2 : Int32) S (fun r2 S1 => (isB r2 ∧ Q r2 S1))
set_option maxHeartbeats 4000000 in
set_option maxRecDepth 100000 in
theorem c_X12_isLooker (l : Launch) (D : va_G) (kA : Nat → ClassId) (ly : Nat → Nat) (n : List Nat) (hn : ∀ c, c < 20 → c ∈ n) (A : Nat → Prop) (a0 : Int32) : Ci l yX12_isLooker wsX12_isLooker 1 22 (Gp D (Er kA ly) ly n A kA) A [.int a0] (wp_X12_isLooker a0) := by
  intro S Q
  refine Met.ofW (cc := cX12_isLooker) (maxL := 1) (ret := (some .boolean)) (by decide) rfl ?_
  intro p e s m args below meth c s₁ B hml hv
  obtain ⟨rfl, ⟨hP, hD, hK, hN⟩, hw⟩ := hv
  have hx := B.exec
  have hb := B.bytes
  have hr := B.returns
  have hts := atoms_spec (ws := wsX12_isLooker) B.pre
  have hown : s.vm.findClass RX12 = some m.cls := findClass_of_methodNamed B.named
  have hlocks := B.notSynchronized
  have hH : Hp D (Er kA ly) ly n A s.heap S s.heap [] := ⟨hP, hD, va_S.rf⟩
  have hl := lv_entry ([.int a0]) (n := 1) (Nat.le_of_ble_eq_true rfl)
  rw [lg_entry_eq]
  generalize (lg_sl ([.int a0]) ++ List.replicate (1 - (lg_sl ([.int a0])).length) Slot.unset).toArray = ls at hl ⊢
  have hl : lv_has ls 1 [(0, .int a0)] := hl
  rw [wp_X12_isLooker] at hw
  refine lv_iload_n hx hb dX12_isLooker_0 rfl (lv_at hl 0 rfl) ?_
  refine lv_iconst (v := 0) hx hb dX12_isLooker_1 (by decide +kernel) ?_
  refine lv_iconst (v := 2) hx hb dX12_isLooker_2 (by decide +kernel) ?_
  refine k_afti (va_runS (As := [.int a0, .int (0 : Int32), .int (2 : Int32)]) (rest := []) ⟨hx, hb, hml, hown, hts⟩ (c_X12_in l D kA ly n hn A a0 (0 : Int32) (2 : Int32) S _) (va_cwS 3 hts gX12_isLooker_X12_in rfl rfl rfl (by decide +kernel) ⟨(Nat.le_of_ble_eq_true rfl), (Nat.le_of_ble_eq_true rfl)⟩) ⟨k_blind, k_pre hK hN hH hw⟩ rfl rfl hl.1 rfl (lv_room (Nat.le_of_ble_eq_true rfl)) dX12_isLooker_3 ⟨Nat.le_refl _, Nat.le_refl _⟩) hH (fun r2 S1 H locs hw hH => ?_)
  exact k_zret hx hb hr hlocks hK hN hH (isB_n hw.1) hw.2 dX12_isLooker_6
def wp_X12_isLong (a0 : Int32) (S : St) (Q : Int32 → St → Prop) : Prop := wp_X12_in a0 (1 : Int32) (20 : Int32) S (fun r2 S1 => (isB r2 ∧ Q r2 S1))
set_option maxHeartbeats 4000000 in
set_option maxRecDepth 100000 in
theorem c_X12_isLong (l : Launch) (D : va_G) (kA : Nat → ClassId) (ly : Nat → Nat) (n : List Nat) (hn : ∀ c, c < 20 → c ∈ n) (A : Nat → Prop) (a0 : Int32) : Ci l yX12_isLong wsX12_isLong 1 22 (Gp D (Er kA ly) ly n A kA) A [.int a0] (wp_X12_isLong a0) := by
  intro S Q
  refine Met.ofW (cc := cX12_isLong) (maxL := 1) (ret := (some .boolean)) (by decide) rfl ?_
  intro p e s m args below meth c s₁ B hml hv
  obtain ⟨rfl, ⟨hP, hD, hK, hN⟩, hw⟩ := hv
  have hx := B.exec
  have hb := B.bytes
  have hr := B.returns
  have hts := atoms_spec (ws := wsX12_isLong) B.pre
  have hown : s.vm.findClass RX12 = some m.cls := findClass_of_methodNamed B.named
  have hlocks := B.notSynchronized
  have hH : Hp D (Er kA ly) ly n A s.heap S s.heap [] := ⟨hP, hD, va_S.rf⟩
  have hl := lv_entry ([.int a0]) (n := 1) (Nat.le_of_ble_eq_true rfl)
  rw [lg_entry_eq]
  generalize (lg_sl ([.int a0]) ++ List.replicate (1 - (lg_sl ([.int a0])).length) Slot.unset).toArray = ls at hl ⊢
  have hl : lv_has ls 1 [(0, .int a0)] := hl
  rw [wp_X12_isLong] at hw
  refine lv_iload_n hx hb dX12_isLong_0 rfl (lv_at hl 0 rfl) ?_
  refine lv_iconst (v := 1) hx hb dX12_isLong_1 (by decide +kernel) ?_
  refine lv_bipush (v := 20) hx hb dX12_isLong_2 (by decide +kernel) ?_
  refine k_afti (va_runS (As := [.int a0, .int (1 : Int32), .int (20 : Int32)]) (rest := []) ⟨hx, hb, hml, hown, hts⟩ (c_X12_in l D kA ly n hn A a0 (1 : Int32) (20 : Int32) S _) (va_cwS 3 hts gX12_isLong_X12_in rfl rfl rfl (by decide +kernel) ⟨(Nat.le_of_ble_eq_true rfl), (Nat.le_of_ble_eq_true rfl)⟩) ⟨k_blind, k_pre hK hN hH hw⟩ rfl rfl hl.1 rfl (lv_room (Nat.le_of_ble_eq_true rfl)) dX12_isLong_4 ⟨Nat.le_refl _, Nat.le_refl _⟩) hH (fun r2 S1 H locs hw hH => ?_)
  exact k_zret hx hb hr hlocks hK hN hH (isB_n hw.1) hw.2 dX12_isLong_7
def wp_X12_its (a1 : Int32) (a2 : Int32) (S : St) (Q : Int32 → St → Prop) : Prop := (vp_in ((((gI S 0 3) + (2 : Int32)) + ((19 : Int32) * a1)) + a2) 232 ∧ Q (gA S 3 ((((gI S 0 3) + (2 : Int32)) + ((19 : Int32) * a1)) + a2).toNatClampNeg) S)
set_option maxHeartbeats 4000000 in
set_option maxRecDepth 100000 in
theorem c_X12_its (l : Launch) (D : va_G) (kA : Nat → ClassId) (ly : Nat → Nat) (n : List Nat) (hn : ∀ c, c < 20 → c ∈ n) (A : Nat → Prop) (a1 : Int32) (a2 : Int32) : Ci l yX12_its wsX12_its 0 0 (Gp D (Er kA ly) ly n A kA) A [.ref (ly 0), .int a1, .int a2] (wp_X12_its a1 a2) := by
  intro S Q
  refine Met.ofW (cc := cX12_its) (maxL := 3) (ret := (some .int)) (by decide) rfl ?_
  intro p e s m args below meth c s₁ B hml hv
  obtain ⟨rfl, ⟨hP, hD, hK, hN⟩, hw⟩ := hv
  have hx := B.exec
  have hb := B.bytes
  have hr := B.returns
  have hts := atoms_spec (ws := wsX12_its) B.pre
  have hown : s.vm.findClass RX12 = some m.cls := findClass_of_methodNamed B.named
  have hlocks := B.notSynchronized
  have hH : Hp D (Er kA ly) ly n A s.heap S s.heap [] := ⟨hP, hD, va_S.rf⟩
  have hiX12 : ∀ w ∈ u_ws RX12 TX12 39, w ∈ wsX12_its := by decide +kernel
  have lk0 := hts (.fieldLink RX12 16 "SlowPanesModel" "row" "[I") (by decide +kernel)
  have lk1 := hts (.fieldLink RX12 76 "SlowPanesModel" "at" "I") (by decide +kernel)
  have hl := lv_entry ([.ref (ly 0), .int a1, .int a2]) (n := 3) (Nat.le_of_ble_eq_true rfl)
  rw [lg_entry_eq]
  generalize (lg_sl ([.ref (ly 0), .int a1, .int a2]) ++ List.replicate (3 - (lg_sl ([.ref (ly 0), .int a1, .int a2])).length) Slot.unset).toArray = ls at hl ⊢
  have hl : lv_has ls 3 [(0, .ref (ly 0)), (1, .int a1), (2, .int a2)] := hl
  rw [wp_X12_its] at hw
  refine lv_aload_n hx hb dX12_its_0 rfl (lv_at hl 0 rfl) ?_
  refine gf_r_2 hx hb hts hiX12 hown hK hn hH lk0 dX12_its_1 ?_
  refine lv_aload_n hx hb dX12_its_4 rfl (lv_at hl 0 rfl) ?_
  refine gf_r_3 hx hb hts hiX12 hown hK hn hH lk1 dX12_its_5 ?_
  refine lv_iconst (v := 2) hx hb dX12_its_8 (by decide +kernel) ?_
  refine lv_iadd hx hb dX12_its_9 ?_
  refine lv_bipush (v := 19) hx hb dX12_its_10 (by decide +kernel) ?_
  refine lv_iload_n hx hb dX12_its_12 rfl (lv_at hl 1 rfl) ?_
  refine lv_imul hx hb dX12_its_13 ?_
  refine lv_iadd hx hb dX12_its_14 ?_
  refine lv_iload_n hx hb dX12_its_15 rfl (lv_at hl 2 rfl) ?_
  refine lv_iadd hx hb dX12_its_16 ?_
  obtain ⟨hi_1, hw⟩ := hw
  refine k_ild hx hb hK hH (hn _ (by decide)) Er_3 hi_1 dX12_its_17 ?_
  exact k_iret hx hb hr hlocks hK hN hH hw dX12_its_18
def wp_X12_becomes (a1 : Int32) (a2 : Int32) (a3 : Int32) (S : St) (Q : St → Prop) : Prop := (vp_in ((((gI S 0 3) + (2 : Int32)) + ((19 : Int32) * a1)) + a2) 232 ∧ ∀ S2 : St, S2 = sA S 3 ((((gI S 0 3) + (2 : Int32)) + ((19 : Int32) * a1)) + a2).toNatClampNeg a3 → Q S2)
set_option maxHeartbeats 4000000 in
set_option maxRecDepth 100000 in
theorem c_X12_becomes (l : Launch) (D : va_G) (kA : Nat → ClassId) (ly : Nat → Nat) (n : List Nat) (hn : ∀ c, c < 20 → c ∈ n) (A : Nat → Prop) (a1 : Int32) (a2 : Int32) (a3 : Int32) : Cv l yX12_becomes wsX12_becomes 0 0 (Gp D (Er kA ly) ly n A kA) A [.ref (ly 0), .int a1, .int a2, .int a3] (wp_X12_becomes a1 a2 a3) := by
  intro S Q
  refine Met.ofW (cc := cX12_becomes) (maxL := 4) (ret := none) (by decide) rfl ?_
  intro p e s m args below meth c s₁ B hml hv
  obtain ⟨rfl, ⟨hP, hD, hK, hN⟩, hw⟩ := hv
  have hx := B.exec
  have hb := B.bytes
  have hr := B.returns
  have hts := atoms_spec (ws := wsX12_becomes) B.pre
  have hown : s.vm.findClass RX12 = some m.cls := findClass_of_methodNamed B.named
  have hlocks := B.notSynchronized
  have hH : Hp D (Er kA ly) ly n A s.heap S s.heap [] := ⟨hP, hD, va_S.rf⟩
  have hiX12 : ∀ w ∈ u_ws RX12 TX12 39, w ∈ wsX12_becomes := by decide +kernel
  have lk0 := hts (.fieldLink RX12 16 "SlowPanesModel" "row" "[I") (by decide +kernel)
  have lk1 := hts (.fieldLink RX12 76 "SlowPanesModel" "at" "I") (by decide +kernel)
  have hl := lv_entry ([.ref (ly 0), .int a1, .int a2, .int a3]) (n := 4) (Nat.le_of_ble_eq_true rfl)
  rw [lg_entry_eq]
  generalize (lg_sl ([.ref (ly 0), .int a1, .int a2, .int a3]) ++ List.replicate (4 - (lg_sl ([.ref (ly 0), .int a1, .int a2, .int a3])).length) Slot.unset).toArray = ls at hl ⊢
  have hl : lv_has ls 4 [(0, .ref (ly 0)), (1, .int a1), (2, .int a2), (3, .int a3)] := hl
  rw [wp_X12_becomes] at hw
  refine lv_aload_n hx hb dX12_becomes_0 rfl (lv_at hl 0 rfl) ?_
  refine gf_r_2 hx hb hts hiX12 hown hK hn hH lk0 dX12_becomes_1 ?_
  refine lv_aload_n hx hb dX12_becomes_4 rfl (lv_at hl 0 rfl) ?_
  refine gf_r_3 hx hb hts hiX12 hown hK hn hH lk1 dX12_becomes_5 ?_
  refine lv_iconst (v := 2) hx hb dX12_becomes_8 (by decide +kernel) ?_
  refine lv_iadd hx hb dX12_becomes_9 ?_
  refine lv_bipush (v := 19) hx hb dX12_becomes_10 (by decide +kernel) ?_
  refine lv_iload_n hx hb dX12_becomes_12 rfl (lv_at hl 1 rfl) ?_
  refine lv_imul hx hb dX12_becomes_13 ?_
  refine lv_iadd hx hb dX12_becomes_14 ?_
  refine lv_iload_n hx hb dX12_becomes_15 rfl (lv_at hl 2 rfl) ?_
  refine lv_iadd hx hb dX12_becomes_16 ?_
  refine lv_iload_n hx hb dX12_becomes_17 rfl (lv_at hl 3 rfl) ?_
  obtain ⟨hi_1, hw⟩ := hw
  refine k_ist hx hb hK hH (hn _ (by decide)) (fun _ => Er_3) hi_1 dX12_becomes_18 (fun S2 H locs eS2 hH => ?_)
  replace hw := hw S2 eS2
  exact k_vret hx hb hr hlocks hK hN hH hw dX12_becomes_19
def wl_X12_feed_30 (a1 : Int64) (a3 : Int32) (K_30 : Int32 → St → Prop) : Nat → Int32 → St → Prop
  | 0, _, _ => False
  | fu_30 + 1, v4_30, S_30 => ((a3 ≤ v4_30 → K_30 v4_30 S_30) ∧ (¬ a3 ≤ v4_30 → (vp_in (gI S_30 0 6) 200 ∧ ∀ S7 : St, S7 = sA S_30 4 (gI S_30 0 6).toNatClampNeg (((a1 >>> (((8 : Int32) * v4_30).toInt64 &&& 63)) &&& (255 : Int64)).toInt32) → (∀ S8 : St, S8 = sI S7 0 6 ((gI S7 0 6) + (1 : Int32)) → (∀ t9 : Int32, t9 = v4_30 + 1 → wl_X12_feed_30 a1 a3 K_30 fu_30 t9 S8)))))
def wp_X12_feed (a1 : Int64) (a3 : Int32) (S : St) (Q : Int32 → St → Prop) : Prop := wp_X12_in a3 (1 : Int32) (8 : Int32) S (fun r2 S1 => ((r2 = 0 → Q (-1 : Int32) S1) ∧ (¬ r2 = 0 → ((((gI S1 0 6) + a3) ≤ (200 : Int32) → (∃ m_30 : Nat, wl_X12_feed_30 a1 a3 (fun e4_10 S11 => Q (gI S11 0 6) S11) m_30 (0 : Int32) S1)) ∧ (¬ ((gI S1 0 6) + a3) ≤ (200 : Int32) → Q (-2 : Int32) S1)))))
set_option maxHeartbeats 4000000 in
set_option maxRecDepth 100000 in
theorem c_X12_feed (l : Launch) (D : va_G) (kA : Nat → ClassId) (ly : Nat → Nat) (n : List Nat) (hn : ∀ c, c < 20 → c ∈ n) (A : Nat → Prop) (a1 : Int64) (a3 : Int32) : Ci l yX12_feed wsX12_feed 1 22 (Gp D (Er kA ly) ly n A kA) A [.ref (ly 0), .long a1, .int a3] (wp_X12_feed a1 a3) := by
  intro S Q
  refine Met.ofW (cc := cX12_feed) (maxL := 5) (ret := (some .int)) (by decide) rfl ?_
  intro p e s m args below meth c s₁ B hml hv
  obtain ⟨rfl, ⟨hP, hD, hK, hN⟩, hw⟩ := hv
  have hx := B.exec
  have hb := B.bytes
  have hr := B.returns
  have hts := atoms_spec (ws := wsX12_feed) B.pre
  have hown : s.vm.findClass RX12 = some m.cls := findClass_of_methodNamed B.named
  have hlocks := B.notSynchronized
  have hH : Hp D (Er kA ly) ly n A s.heap S s.heap [] := ⟨hP, hD, va_S.rf⟩
  have hiX12 : ∀ w ∈ u_ws RX12 TX12 39, w ∈ wsX12_feed := by decide +kernel
  have lk0 := hts (.fieldLink RX12 79 "SlowPanesModel" "tapeMany" "I") (by decide +kernel)
  have lk1 := hts (.fieldLink RX12 23 "SlowPanesModel" "tape" "[I") (by decide +kernel)
  have lk2 := hts (.constantLong RX12 82 (255)) (by decide +kernel)
  have hl := lv_entry ([.ref (ly 0), .long a1, .int a3]) (n := 5) (Nat.le_of_ble_eq_true rfl)
  rw [lg_entry_eq]
  generalize (lg_sl ([.ref (ly 0), .long a1, .int a3]) ++ List.replicate (5 - (lg_sl ([.ref (ly 0), .long a1, .int a3])).length) Slot.unset).toArray = ls at hl ⊢
  have hl : lv_has ls 5 [(0, .ref (ly 0)), (1, .long a1), (3, .int a3)] := hl
  rw [wp_X12_feed] at hw
  refine lv_iload_n hx hb dX12_feed_0 rfl (lv_at hl 2 rfl) ?_
  refine lv_iconst (v := 1) hx hb dX12_feed_1 (by decide +kernel) ?_
  refine lv_bipush (v := 8) hx hb dX12_feed_2 (by decide +kernel) ?_
  refine k_afti (va_runS (As := [.int a3, .int (1 : Int32), .int (8 : Int32)]) (rest := []) ⟨hx, hb, hml, hown, hts⟩ (c_X12_in l D kA ly n hn A a3 (1 : Int32) (8 : Int32) S _) (va_cwS 3 hts gX12_feed_X12_in rfl rfl rfl (by decide +kernel) ⟨(Nat.le_of_ble_eq_true rfl), (Nat.le_of_ble_eq_true rfl)⟩) ⟨k_blind, k_pre hK hN hH hw⟩ rfl rfl hl.1 rfl (lv_room (Nat.le_of_ble_eq_true rfl)) dX12_feed_4 ⟨Nat.le_refl _, Nat.le_refl _⟩) hH (fun r2 S1 H locs hw hH => ?_)
  refine lv_if_ne (tgt := 12) hx hb dX12_feed_7 (by decide) (fun hc3 => ?_) (fun hc3 => ?_)
  · replace hw := hw.2 hc3
    refine lv_aload_n hx hb dX12_feed_12 rfl (lv_at hl 0 rfl) ?_
    refine gf_r_6 hx hb hts hiX12 hown hK hn hH lk0 dX12_feed_13 ?_
    refine lv_iload_n hx hb dX12_feed_16 rfl (lv_at hl 2 rfl) ?_
    refine lv_iadd hx hb dX12_feed_17 ?_
    refine lv_sipush (v := 200) hx hb dX12_feed_18 (by decide +kernel) ?_
    refine lv_icmp_le (tgt := 27) hx hb dX12_feed_21 (by decide) (fun hc4 => ?_) (fun hc4 => ?_)
    · replace hw := hw.1 hc4
      refine lv_iconst (v := 0) hx hb dX12_feed_27 (by decide +kernel) ?_
      refine lv_istore (lv' := [(4, .int (0 : Int32)), (0, .ref (ly 0)), (1, .long a1), (3, .int a3)]) hx hb dX12_feed_28 hl (by decide) rfl (fun ls hl => ?_)
      have L_30 : ∀ (K_30 : Int32 → St → Prop) (hk_30 : ∀ (v4_30 : Int32) (S_30 : St) (H : Heap) (locs : List Loc) (ls : Array Slot), K_30 v4_30 S_30 → Hp D (Er kA ly) ly n A s.heap S_30 H locs → lv_has ls 5 [(0, .ref (ly 0)), (1, .long a1), (3, .int a3), (4, .int v4_30)] → W p l e (headSpec wsX12_feed { frames := 1, cells := 0, slots := 0, locals := 22 }).room s m [.ref (ly 0), .long a1, .int a3].toArray below meth c H locs 0 0 (MQ below (va_Qi Q (Gp D (Er kA ly) ly n A kA) A) [.ref (ly 0), .long a1, .int a3].toArray s 0 0 A) (F0 m 73 ls [])) (fu_30 : Nat) (v4_30 : Int32) (S_30 : St) (H : Heap) (locs : List Loc) (ls : Array Slot), wl_X12_feed_30 a1 a3 K_30 fu_30 v4_30 S_30 → Hp D (Er kA ly) ly n A s.heap S_30 H locs → lv_has ls 5 [(0, .ref (ly 0)), (1, .long a1), (3, .int a3), (4, .int v4_30)] → W p l e (headSpec wsX12_feed { frames := 1, cells := 0, slots := 0, locals := 22 }).room s m [.ref (ly 0), .long a1, .int a3].toArray below meth c H locs 0 0 (MQ below (va_Qi Q (Gp D (Er kA ly) ly n A kA) A) [.ref (ly 0), .long a1, .int a3].toArray s 0 0 A) (F0 m 30 ls []) := by
        intro K_30 hk_30 fu_30
        induction fu_30 with
        | zero => intro v4_30 S_30 H locs ls hw hH hl; rw [wl_X12_feed_30] at hw; exact hw.elim
        | succ fu_30 ih_30 =>
          intro v4_30 S_30 H locs ls hw hH hl
          rw [wl_X12_feed_30] at hw
          refine lv_iload hx hb dX12_feed_30 (lv_at hl 3 rfl) ?_
          refine lv_iload_n hx hb dX12_feed_32 rfl (lv_at hl 2 rfl) ?_
          refine lv_icmp_ge (tgt := 73) hx hb dX12_feed_33 (by decide) (fun hc5 => ?_) (fun hc5 => ?_)
          · replace hw := hw.1 hc5
            exact hk_30 v4_30 S_30 _ _ ls hw hH (lv_sub hl [0, 1, 2, 3] rfl)
          · replace hw := hw.2 hc5
            refine lv_aload_n hx hb dX12_feed_36 rfl (lv_at hl 0 rfl) ?_
            refine gf_r_5 hx hb hts hiX12 hown hK hn hH lk1 dX12_feed_37 ?_
            refine lv_aload_n hx hb dX12_feed_40 rfl (lv_at hl 0 rfl) ?_
            refine gf_r_6 hx hb hts hiX12 hown hK hn hH lk0 dX12_feed_41 ?_
            refine lv_lload_n hx hb dX12_feed_44 rfl (lv_at hl 1 rfl) ?_
            refine lv_bipush (v := 8) hx hb dX12_feed_45 (by decide +kernel) ?_
            refine lv_iload hx hb dX12_feed_47 (lv_at hl 3 rfl) ?_
            refine lv_imul hx hb dX12_feed_49 ?_
            refine lv_lshr hx hb dX12_feed_50 rfl ?_
            refine lv_ldc2 (v := 255) hx hb hown lk2 dX12_feed_51 ?_
            refine lv_land hx hb dX12_feed_54 ?_
            refine lv_l2i hx hb dX12_feed_55 rfl ?_
            obtain ⟨hi_6, hw⟩ := hw
            refine k_ist hx hb hK hH (hn _ (by decide)) (fun _ => Er_4) hi_6 dX12_feed_56 (fun S7 H locs eS7 hH => ?_)
            replace hw := hw S7 eS7
            refine lv_aload_n hx hb dX12_feed_57 rfl (lv_at hl 0 rfl) ?_
            refine lv_dup hx hb dX12_feed_58 rfl ?_
            refine gf_r_6 hx hb hts hiX12 hown hK hn hH lk0 dX12_feed_59 ?_
            refine lv_iconst (v := 1) hx hb dX12_feed_62 (by decide +kernel) ?_
            refine lv_iadd hx hb dX12_feed_63 ?_
            refine pf_r_6 hx hb hts hiX12 hown hK hn hH lk0 dX12_feed_64 (fun S8 H locs eS8 hH => ?_)
            replace hw := hw S8 eS8
            obtain ⟨t9, et9⟩ : ∃ y : Int32, y = v4_30 + 1 := ⟨_, rfl⟩
            replace hw := hw t9 et9
            refine lv_iinc (v := t9) (lv' := [(4, .int t9), (0, .ref (ly 0)), (1, .long a1), (3, .int a3)]) hx hb dX12_feed_67 hl (k := 3) rfl (by rw [et9]; rfl) (by decide) rfl (fun ls hl => ?_)
            refine lv_goto (tgt := 30) hx hb dX12_feed_70 (by decide) ?_
            exact ih_30 t9 S8 _ _ ls hw hH (lv_sub hl [1, 2, 3, 0] rfl)
      obtain ⟨m_30, hw⟩ := hw
      refine L_30 _ (fun e4_10 S11 H locs ls hw hH hl => ?_) m_30 (0 : Int32) S1 _ _ ls hw hH (lv_sub hl [1, 2, 3, 0] rfl)
      refine lv_aload_n hx hb dX12_feed_73 rfl (lv_at hl 0 rfl) ?_
      refine gf_r_6 hx hb hts hiX12 hown hK hn hH lk0 dX12_feed_74 ?_
      exact k_iret hx hb hr hlocks hK hN hH hw dX12_feed_77
    · replace hw := hw.2 hc4
      refine lv_bipush (v := -2) hx hb dX12_feed_24 (by decide +kernel) ?_
      exact k_iret hx hb hr hlocks hK hN hH hw dX12_feed_26
  · replace hw := hw.1 hc3
    refine lv_iconst (v := -1) hx hb dX12_feed_10 (by decide +kernel) ?_
    exact k_iret hx hb hr hlocks hK hN hH hw dX12_feed_11
def wp_X12_byteAt (a1 : Int32) (S : St) (Q : Int32 → St → Prop) : Prop := (((gI S 0 6) ≤ a1 → Q (-1 : Int32) S) ∧ (¬ (gI S 0 6) ≤ a1 → (vp_in a1 200 ∧ Q (gA S 4 a1.toNatClampNeg) S)))
set_option maxHeartbeats 4000000 in
set_option maxRecDepth 100000 in
theorem c_X12_byteAt (l : Launch) (D : va_G) (kA : Nat → ClassId) (ly : Nat → Nat) (n : List Nat) (hn : ∀ c, c < 20 → c ∈ n) (A : Nat → Prop) (a1 : Int32) : Ci l yX12_byteAt wsX12_byteAt 0 0 (Gp D (Er kA ly) ly n A kA) A [.ref (ly 0), .int a1] (wp_X12_byteAt a1) := by
  intro S Q
  refine Met.ofW (cc := cX12_byteAt) (maxL := 2) (ret := (some .int)) (by decide) rfl ?_
  intro p e s m args below meth c s₁ B hml hv
  obtain ⟨rfl, ⟨hP, hD, hK, hN⟩, hw⟩ := hv
  have hx := B.exec
  have hb := B.bytes
  have hr := B.returns
  have hts := atoms_spec (ws := wsX12_byteAt) B.pre
  have hown : s.vm.findClass RX12 = some m.cls := findClass_of_methodNamed B.named
  have hlocks := B.notSynchronized
  have hH : Hp D (Er kA ly) ly n A s.heap S s.heap [] := ⟨hP, hD, va_S.rf⟩
  have hiX12 : ∀ w ∈ u_ws RX12 TX12 39, w ∈ wsX12_byteAt := by decide +kernel
  have lk0 := hts (.fieldLink RX12 79 "SlowPanesModel" "tapeMany" "I") (by decide +kernel)
  have lk1 := hts (.fieldLink RX12 23 "SlowPanesModel" "tape" "[I") (by decide +kernel)
  have hl := lv_entry ([.ref (ly 0), .int a1]) (n := 2) (Nat.le_of_ble_eq_true rfl)
  rw [lg_entry_eq]
  generalize (lg_sl ([.ref (ly 0), .int a1]) ++ List.replicate (2 - (lg_sl ([.ref (ly 0), .int a1])).length) Slot.unset).toArray = ls at hl ⊢
  have hl : lv_has ls 2 [(0, .ref (ly 0)), (1, .int a1)] := hl
  rw [wp_X12_byteAt] at hw
  refine lv_iload_n hx hb dX12_byteAt_0 rfl (lv_at hl 1 rfl) ?_
  refine lv_aload_n hx hb dX12_byteAt_1 rfl (lv_at hl 0 rfl) ?_
  refine gf_r_6 hx hb hts hiX12 hown hK hn hH lk0 dX12_byteAt_2 ?_
  refine lv_icmp_ge (tgt := 17) hx hb dX12_byteAt_5 (by decide) (fun hc1 => ?_) (fun hc1 => ?_)
  · replace hw := hw.1 hc1
    refine lv_iconst (v := -1) hx hb dX12_byteAt_17 (by decide +kernel) ?_
    exact k_iret hx hb hr hlocks hK hN hH hw dX12_byteAt_18
  · replace hw := hw.2 hc1
    refine lv_aload_n hx hb dX12_byteAt_8 rfl (lv_at hl 0 rfl) ?_
    refine gf_r_5 hx hb hts hiX12 hown hK hn hH lk1 dX12_byteAt_9 ?_
    refine lv_iload_n hx hb dX12_byteAt_12 rfl (lv_at hl 1 rfl) ?_
    obtain ⟨hi_2, hw⟩ := hw
    refine k_ild hx hb hK hH (hn _ (by decide)) Er_4 hi_2 dX12_byteAt_13 ?_
    refine lv_goto (tgt := 18) hx hb dX12_byteAt_14 (by decide) ?_
    exact k_iret hx hb hr hlocks hK hN hH hw dX12_byteAt_18
def wp_X12_isLetter (a0 : Int32) (S : St) (Q : Int32 → St → Prop) : Prop := wp_X12_in a0 (97 : Int32) (122 : Int32) S (fun r2 S1 => (isB r2 ∧ Q r2 S1))
set_option maxHeartbeats 4000000 in
set_option maxRecDepth 100000 in
theorem c_X12_isLetter (l : Launch) (D : va_G) (kA : Nat → ClassId) (ly : Nat → Nat) (n : List Nat) (hn : ∀ c, c < 20 → c ∈ n) (A : Nat → Prop) (a0 : Int32) : Ci l yX12_isLetter wsX12_isLetter 1 22 (Gp D (Er kA ly) ly n A kA) A [.int a0] (wp_X12_isLetter a0) := by
  intro S Q
  refine Met.ofW (cc := cX12_isLetter) (maxL := 1) (ret := (some .boolean)) (by decide) rfl ?_
  intro p e s m args below meth c s₁ B hml hv
  obtain ⟨rfl, ⟨hP, hD, hK, hN⟩, hw⟩ := hv
  have hx := B.exec
  have hb := B.bytes
  have hr := B.returns
  have hts := atoms_spec (ws := wsX12_isLetter) B.pre
  have hown : s.vm.findClass RX12 = some m.cls := findClass_of_methodNamed B.named
  have hlocks := B.notSynchronized
  have hH : Hp D (Er kA ly) ly n A s.heap S s.heap [] := ⟨hP, hD, va_S.rf⟩
  have hl := lv_entry ([.int a0]) (n := 1) (Nat.le_of_ble_eq_true rfl)
  rw [lg_entry_eq]
  generalize (lg_sl ([.int a0]) ++ List.replicate (1 - (lg_sl ([.int a0])).length) Slot.unset).toArray = ls at hl ⊢
  have hl : lv_has ls 1 [(0, .int a0)] := hl
  rw [wp_X12_isLetter] at hw
  refine lv_iload_n hx hb dX12_isLetter_0 rfl (lv_at hl 0 rfl) ?_
  refine lv_bipush (v := 97) hx hb dX12_isLetter_1 (by decide +kernel) ?_
  refine lv_bipush (v := 122) hx hb dX12_isLetter_3 (by decide +kernel) ?_
  refine k_afti (va_runS (As := [.int a0, .int (97 : Int32), .int (122 : Int32)]) (rest := []) ⟨hx, hb, hml, hown, hts⟩ (c_X12_in l D kA ly n hn A a0 (97 : Int32) (122 : Int32) S _) (va_cwS 3 hts gX12_isLetter_X12_in rfl rfl rfl (by decide +kernel) ⟨(Nat.le_of_ble_eq_true rfl), (Nat.le_of_ble_eq_true rfl)⟩) ⟨k_blind, k_pre hK hN hH hw⟩ rfl rfl hl.1 rfl (lv_room (Nat.le_of_ble_eq_true rfl)) dX12_isLetter_5 ⟨Nat.le_refl _, Nat.le_refl _⟩) hH (fun r2 S1 H locs hw hH => ?_)
  exact k_zret hx hb hr hlocks hK hN hH (isB_n hw.1) hw.2 dX12_isLetter_8
def wp_X12_isDigit (a0 : Int32) (S : St) (Q : Int32 → St → Prop) : Prop := wp_X12_in a0 (48 : Int32) (57 : Int32) S (fun r2 S1 => (isB r2 ∧ Q r2 S1))
set_option maxHeartbeats 4000000 in
set_option maxRecDepth 100000 in
theorem c_X12_isDigit (l : Launch) (D : va_G) (kA : Nat → ClassId) (ly : Nat → Nat) (n : List Nat) (hn : ∀ c, c < 20 → c ∈ n) (A : Nat → Prop) (a0 : Int32) : Ci l yX12_isDigit wsX12_isDigit 1 22 (Gp D (Er kA ly) ly n A kA) A [.int a0] (wp_X12_isDigit a0) := by
  intro S Q
  refine Met.ofW (cc := cX12_isDigit) (maxL := 1) (ret := (some .boolean)) (by decide) rfl ?_
  intro p e s m args below meth c s₁ B hml hv
  obtain ⟨rfl, ⟨hP, hD, hK, hN⟩, hw⟩ := hv
  have hx := B.exec
  have hb := B.bytes
  have hr := B.returns
  have hts := atoms_spec (ws := wsX12_isDigit) B.pre
  have hown : s.vm.findClass RX12 = some m.cls := findClass_of_methodNamed B.named
  have hlocks := B.notSynchronized
  have hH : Hp D (Er kA ly) ly n A s.heap S s.heap [] := ⟨hP, hD, va_S.rf⟩
  have hl := lv_entry ([.int a0]) (n := 1) (Nat.le_of_ble_eq_true rfl)
  rw [lg_entry_eq]
  generalize (lg_sl ([.int a0]) ++ List.replicate (1 - (lg_sl ([.int a0])).length) Slot.unset).toArray = ls at hl ⊢
  have hl : lv_has ls 1 [(0, .int a0)] := hl
  rw [wp_X12_isDigit] at hw
  refine lv_iload_n hx hb dX12_isDigit_0 rfl (lv_at hl 0 rfl) ?_
  refine lv_bipush (v := 48) hx hb dX12_isDigit_1 (by decide +kernel) ?_
  refine lv_bipush (v := 57) hx hb dX12_isDigit_3 (by decide +kernel) ?_
  refine k_afti (va_runS (As := [.int a0, .int (48 : Int32), .int (57 : Int32)]) (rest := []) ⟨hx, hb, hml, hown, hts⟩ (c_X12_in l D kA ly n hn A a0 (48 : Int32) (57 : Int32) S _) (va_cwS 3 hts gX12_isDigit_X12_in rfl rfl rfl (by decide +kernel) ⟨(Nat.le_of_ble_eq_true rfl), (Nat.le_of_ble_eq_true rfl)⟩) ⟨k_blind, k_pre hK hN hH hw⟩ rfl rfl hl.1 rfl (lv_room (Nat.le_of_ble_eq_true rfl)) dX12_isDigit_5 ⟨Nat.le_refl _, Nat.le_refl _⟩) hH (fun r2 S1 H locs hw hH => ?_)
  exact k_zret hx hb hr hlocks hK hN hH (isB_n hw.1) hw.2 dX12_isDigit_8
