/-! CONSTRUCTORS: each over its own object; what it makes lies at addresses u.1 0, u.1 1 .. -/
theorem K_same {D : va_G} {cl : List vw_C} {tys : List (ClassId × FieldType)} {s : State} (hK : va_K D cl tys s) (i j : Nat) {a b : ClassId} {ty : FieldType} (h1 : tys[i]? = some (a, ty)) (h2 : tys[j]? = some (b, ty)) : a = b := by
  have g1 := (hK.2 i _ h1).2
  have g2 := (hK.2 j _ h2).2
  cases ty with
  | object C =>
    obtain ⟨_, _, _, _, _, e1⟩ := g1
    obtain ⟨_, _, _, _, _, e2⟩ := g2
    exact Option.some.inj (e1.symm.trans e2)
  | _ => exact Option.some.inj (Eq.trans (Eq.symm g1) g2)
theorem i_blind {av : List Value} {sz : Nat} {D : va_G} {w0 : va_W} : FrameBlind (va_Pc av (fun U => U.heap.size = sz ∧ va_P D vwCl w0 U.heap ∧ va_K D vwCl [] U ∧ va_D (fun _ => True) w0 ∧ NW U ∧ va_AO "SlowPanes$Pane" U ∧ va_AO "SlowPanes$Sheet" U)) := by
  intro a U g mk ⟨h1, h2, h3, h4, h5, h6, h7, h8⟩
  exact ⟨h1, h2, h3, va_K.moved (u := U) (U := U.calling g mk a) (Vm.Alike.refl U.vm) h4, h5, fun w hw => by
    have h9 := h6 w hw
    simp only [nestW, List.mem_cons, List.not_mem_nil, or_false] at hw
    rcases hw with rfl | rfl | rfl | rfl | rfl | rfl | rfl | rfl | rfl <;> exact va_Nw.same rfl rfl h9, h7.moved (U := U.calling g mk a) (Vm.Alike.refl U.vm), h8.moved (U := U.calling g mk a) (Vm.Alike.refl U.vm)⟩
set_option maxHeartbeats 4000000 in
set_option maxRecDepth 100000 in
theorem c_X8_init (l : Launch) (D : va_G) (h0 : Nat) (x1 : Int32) (x2 : Int32) (t3 : Nat) (sz : Nat) : Met l yX8_init wsX8_init { frames := 1, cells := 0, slots := 0, locals := 20 } (va_Pc [.ref h0, .int x1, .int x2, .ref t3] (fun U => U.heap.size = sz ∧ va_P D vwCl [(h0, .inr (8, [.int 0, .int 0, .null]))] U.heap ∧ va_K D vwCl [] U ∧ va_D (fun _ => True) [(h0, .inr (8, [.int 0, .int 0, .null]))] ∧ NW U ∧ va_AO "SlowPanes$Pane" U ∧ va_AO "SlowPanes$Sheet" U)) (va_Qv (fun _ : (Nat → Nat) × (Nat → ClassId) => True) (fun u t => va_P D vwCl [(h0, .inr (8, [.int x1, .int x2, .ref t3]))] t.heap ∧ va_K D vwCl [] t ∧ va_D (va_A [(h0, .inr (8, [.int 0, .int 0, .null]))] sz) [(h0, .inr (8, [.int x1, .int x2, .ref t3]))]) (va_A [(h0, .inr (8, [.int 0, .int 0, .null]))] sz)) 0 0 (va_A [(h0, .inr (8, [.int 0, .int 0, .null]))] sz) := by
  refine Met.ofW (cc := cX8_init) (maxL := 4) (ret := none) (by decide) rfl ?_
  intro p e s m args below meth c s₁ B hml hv
  obtain ⟨rfl, hsz, hP, hK, hD0, hN, hAO⟩ := hv
  have hx := B.exec
  have hb := B.bytes
  have hr := B.returns
  have hts := atoms_spec (ws := wsX8_init) B.pre
  have hown : s.vm.findClass RX8 = some m.cls := findClass_of_methodNamed B.named
  have hlocks := B.notSynchronized
  have hin : meth.name = "<init>" := (name_of_methodNamed B.named B.method).1
  subst hsz
  have hD := hD0.self (sz := s.heap.size)
  generalize hAe : va_A [(h0, .inr (8, [.int 0, .int 0, .null]))] s.heap.size = A at hD ⊢
  have hA : ∀ q : Nat, s.heap.size ≤ q → A q := fun q h => by rw [← hAe]; exact Or.inr h
  have hS : va_S A s.heap s.heap [] := va_S.rf
  have hP : va_P D vwCl [(h0, .inr (8, [.int 0, .int 0, .null]))] s.heap := hP
  have hiX8 : ∀ w ∈ u_ws RX8 TX8 3, w ∈ wsX8_init := by decide +kernel
  have lk0 := hts (.methodLink RX8 1 objectInit) (by decide +kernel)
  have lk1 := hts (.instanceMethod objectInit) (by decide +kernel)
  have lk2 := hts (.code objectInit ⟨#[0xb1]⟩ 1 none) (by decide +kernel)
  have lk3 := hts (.fieldLink RX8 7 "SlowPanes$Thing" "n" "I") (by decide +kernel)
  have lk4 := hts (.fieldLink RX8 13 "SlowPanes$Thing" "a" "I") (by decide +kernel)
  have lk5 := hts (.fieldLink RX8 16 "SlowPanes$Thing" "trace" "LSlowPanes$Trace;") (by decide +kernel)
  have hl := lv_entry ([.ref h0, .int x1, .int x2, .ref t3]) (n := 4) (Nat.le_of_ble_eq_true rfl)
  rw [lg_entry_eq]
  generalize (lg_sl ([.ref h0, .int x1, .int x2, .ref t3]) ++ List.replicate (4 - (lg_sl ([.ref h0, .int x1, .int x2, .ref t3])).length) Slot.unset).toArray = ls at hl ⊢
  have hl : lv_has ls 4 [(0, .ref h0), (1, .int x1), (2, .int x2), (3, .ref t3)] := hl
  refine lv_aload_n hx hb dX8_init_0 rfl (lv_at hl 0 rfl) ?_
  refine W.objInit hx hb hown lk0 lk1 lk2 rfl (by rw [hml]; exact hl.1) rfl dX8_init_1 (Nat.le_of_ble_eq_true rfl) (Nat.le_of_ble_eq_true rfl) ?_
  refine W.eq (g2 := F0 m 4 ls []) rfl ?_
  refine lv_aload_n hx hb dX8_init_4 rfl (lv_at hl 0 rfl) ?_
  refine lv_iload_n hx hb dX8_init_5 rfl (lv_at hl 1 rfl) ?_
  refine va_putF (D := D) (ci := 8) (v := .int x1) (ty := .int) (C := RX8) (T := TX8) (N := 3) hx hb hts hiX8 tyX8 tyX8_ok nmX8 hown hK hP hD hS 0 rfl rfl 0 (by decide) lk3 (fun _ h => h) rfl hin rfl (by decide +kernel) rfl rfl (Nat.le_of_ble_eq_true rfl) dX8_init_6 (fun H locs hP hD hS => ?_)
  have hP : va_P D vwCl [(h0, .inr (8, [.int x1, .int 0, .null]))] H := hP
  have hD : va_D A [(h0, .inr (8, [.int x1, .int 0, .null]))] := hD
  refine lv_aload_n hx hb dX8_init_9 rfl (lv_at hl 0 rfl) ?_
  refine lv_iload_n hx hb dX8_init_10 rfl (lv_at hl 2 rfl) ?_
  refine va_putF (D := D) (ci := 8) (v := .int x2) (ty := .int) (C := RX8) (T := TX8) (N := 3) hx hb hts hiX8 tyX8 tyX8_ok nmX8 hown hK hP hD hS 0 rfl rfl 1 (by decide) lk4 (fun _ h => h) rfl hin rfl (by decide +kernel) rfl rfl (Nat.le_of_ble_eq_true rfl) dX8_init_11 (fun H locs hP hD hS => ?_)
  have hP : va_P D vwCl [(h0, .inr (8, [.int x1, .int x2, .null]))] H := hP
  have hD : va_D A [(h0, .inr (8, [.int x1, .int x2, .null]))] := hD
  refine lv_aload_n hx hb dX8_init_14 rfl (lv_at hl 0 rfl) ?_
  refine lv_aload_n hx hb dX8_init_15 rfl (lv_at hl 3 rfl) ?_
  refine va_putF (D := D) (ci := 8) (v := .ref t3) (ty := .object "SlowPanes$Trace") (C := RX8) (T := TX8) (N := 3) hx hb hts hiX8 tyX8 tyX8_ok nmX8 hown hK hP hD hS 0 rfl rfl 2 (by decide) lk5 (fun _ h => h) rfl hin rfl (by decide +kernel) rfl rfl (Nat.le_of_ble_eq_true rfl) dX8_init_16 (fun H locs hP hD hS => ?_)
  have hP : va_P D vwCl [(h0, .inr (8, [.int x1, .int x2, .ref t3]))] H := hP
  have hD : va_D A [(h0, .inr (8, [.int x1, .int x2, .ref t3]))] := hD
  exact W.vret hx hb hr (fun t ht hW => ⟨⟨(fun j => ([] : List Nat).getD j 0, fun j => ([] : List ClassId).getD j 0), rfl, trivial, by rw [ht]; exact hP, va_K.moved hW.alike hK, hD⟩, hS.F ht⟩) hS.2.2 dX8_init_19 hlocks
set_option maxHeartbeats 4000000 in
set_option maxRecDepth 100000 in
theorem c_X8_init_c0 (l : Launch) (D : va_G) (h0 : Nat) (x1 : Int32) (x2 : Int32) (t3 : Nat) (sz : Nat) : Met l yX8_init wsX8_init { frames := 1, cells := 0, slots := 0, locals := 20 } (va_Pc [.ref h0, .int x1, .int x2, .ref t3] (fun U => U.heap.size = sz ∧ va_P D vwCl [(h0, .inr (0, [.int 0, .int 0, .null]))] U.heap ∧ va_K D vwCl [] U ∧ va_D (fun _ => True) [(h0, .inr (0, [.int 0, .int 0, .null]))] ∧ NW U ∧ va_AO "SlowPanes$Pane" U ∧ va_AO "SlowPanes$Sheet" U)) (va_Qv (fun _ : (Nat → Nat) × (Nat → ClassId) => True) (fun u t => va_P D vwCl [(h0, .inr (0, [.int x1, .int x2, .ref t3]))] t.heap ∧ va_K D vwCl [] t ∧ va_D (va_A [(h0, .inr (0, [.int 0, .int 0, .null]))] sz) [(h0, .inr (0, [.int x1, .int x2, .ref t3]))]) (va_A [(h0, .inr (0, [.int 0, .int 0, .null]))] sz)) 0 0 (va_A [(h0, .inr (0, [.int 0, .int 0, .null]))] sz) := by
  refine Met.ofW (cc := cX8_init) (maxL := 4) (ret := none) (by decide) rfl ?_
  intro p e s m args below meth c s₁ B hml hv
  obtain ⟨rfl, hsz, hP, hK, hD0, hN, hAO⟩ := hv
  have hx := B.exec
  have hb := B.bytes
  have hr := B.returns
  have hts := atoms_spec (ws := wsX8_init) B.pre
  have hown : s.vm.findClass RX8 = some m.cls := findClass_of_methodNamed B.named
  have hlocks := B.notSynchronized
  have hin : meth.name = "<init>" := (name_of_methodNamed B.named B.method).1
  subst hsz
  have hD := hD0.self (sz := s.heap.size)
  generalize hAe : va_A [(h0, .inr (0, [.int 0, .int 0, .null]))] s.heap.size = A at hD ⊢
  have hA : ∀ q : Nat, s.heap.size ≤ q → A q := fun q h => by rw [← hAe]; exact Or.inr h
  have hS : va_S A s.heap s.heap [] := va_S.rf
  have hP : va_P D vwCl [(h0, .inr (0, [.int 0, .int 0, .null]))] s.heap := hP
  have hiX0 : ∀ w ∈ u_ws RX0 TX0 3, w ∈ wsX8_init := by decide +kernel
  have lk0 := hts (.methodLink RX8 1 objectInit) (by decide +kernel)
  have lk1 := hts (.instanceMethod objectInit) (by decide +kernel)
  have lk2 := hts (.code objectInit ⟨#[0xb1]⟩ 1 none) (by decide +kernel)
  have lk3 := hts (.fieldLink RX8 7 "SlowPanes$Thing" "n" "I") (by decide +kernel)
  have lk4 := hts (.fieldLink RX8 13 "SlowPanes$Thing" "a" "I") (by decide +kernel)
  have lk5 := hts (.fieldLink RX8 16 "SlowPanes$Thing" "trace" "LSlowPanes$Trace;") (by decide +kernel)
  have hl := lv_entry ([.ref h0, .int x1, .int x2, .ref t3]) (n := 4) (Nat.le_of_ble_eq_true rfl)
  rw [lg_entry_eq]
  generalize (lg_sl ([.ref h0, .int x1, .int x2, .ref t3]) ++ List.replicate (4 - (lg_sl ([.ref h0, .int x1, .int x2, .ref t3])).length) Slot.unset).toArray = ls at hl ⊢
  have hl : lv_has ls 4 [(0, .ref h0), (1, .int x1), (2, .int x2), (3, .ref t3)] := hl
  refine lv_aload_n hx hb dX8_init_0 rfl (lv_at hl 0 rfl) ?_
  refine W.objInit hx hb hown lk0 lk1 lk2 rfl (by rw [hml]; exact hl.1) rfl dX8_init_1 (Nat.le_of_ble_eq_true rfl) (Nat.le_of_ble_eq_true rfl) ?_
  refine W.eq (g2 := F0 m 4 ls []) rfl ?_
  refine lv_aload_n hx hb dX8_init_4 rfl (lv_at hl 0 rfl) ?_
  refine lv_iload_n hx hb dX8_init_5 rfl (lv_at hl 1 rfl) ?_
  refine va_putF (D := D) (ci := 0) (v := .int x1) (ty := .int) (C := RX0) (T := TX0) (N := 3) hx hb hts hiX0 tyX0 tyX0_ok nmX0 hown hK hP hD hS 0 rfl rfl 0 (by decide) lk3 (fun _ h => h) rfl hin rfl (by decide +kernel) rfl rfl (Nat.le_of_ble_eq_true rfl) dX8_init_6 (fun H locs hP hD hS => ?_)
  have hP : va_P D vwCl [(h0, .inr (0, [.int x1, .int 0, .null]))] H := hP
  have hD : va_D A [(h0, .inr (0, [.int x1, .int 0, .null]))] := hD
  refine lv_aload_n hx hb dX8_init_9 rfl (lv_at hl 0 rfl) ?_
  refine lv_iload_n hx hb dX8_init_10 rfl (lv_at hl 2 rfl) ?_
  refine va_putF (D := D) (ci := 0) (v := .int x2) (ty := .int) (C := RX0) (T := TX0) (N := 3) hx hb hts hiX0 tyX0 tyX0_ok nmX0 hown hK hP hD hS 0 rfl rfl 1 (by decide) lk4 (fun _ h => h) rfl hin rfl (by decide +kernel) rfl rfl (Nat.le_of_ble_eq_true rfl) dX8_init_11 (fun H locs hP hD hS => ?_)
  have hP : va_P D vwCl [(h0, .inr (0, [.int x1, .int x2, .null]))] H := hP
  have hD : va_D A [(h0, .inr (0, [.int x1, .int x2, .null]))] := hD
  refine lv_aload_n hx hb dX8_init_14 rfl (lv_at hl 0 rfl) ?_
  refine lv_aload_n hx hb dX8_init_15 rfl (lv_at hl 3 rfl) ?_
  refine va_putF (D := D) (ci := 0) (v := .ref t3) (ty := .object "SlowPanes$Trace") (C := RX0) (T := TX0) (N := 3) hx hb hts hiX0 tyX0 tyX0_ok nmX0 hown hK hP hD hS 0 rfl rfl 2 (by decide) lk5 (fun _ h => h) rfl hin rfl (by decide +kernel) rfl rfl (Nat.le_of_ble_eq_true rfl) dX8_init_16 (fun H locs hP hD hS => ?_)
  have hP : va_P D vwCl [(h0, .inr (0, [.int x1, .int x2, .ref t3]))] H := hP
  have hD : va_D A [(h0, .inr (0, [.int x1, .int x2, .ref t3]))] := hD
  exact W.vret hx hb hr (fun t ht hW => ⟨⟨(fun j => ([] : List Nat).getD j 0, fun j => ([] : List ClassId).getD j 0), rfl, trivial, by rw [ht]; exact hP, va_K.moved hW.alike hK, hD⟩, hS.F ht⟩) hS.2.2 dX8_init_19 hlocks
set_option maxHeartbeats 4000000 in
set_option maxRecDepth 100000 in
theorem c_X8_init_c1 (l : Launch) (D : va_G) (h0 : Nat) (x1 : Int32) (x2 : Int32) (t3 : Nat) (sz : Nat) : Met l yX8_init wsX8_init { frames := 1, cells := 0, slots := 0, locals := 20 } (va_Pc [.ref h0, .int x1, .int x2, .ref t3] (fun U => U.heap.size = sz ∧ va_P D vwCl [(h0, .inr (1, [.int 0, .int 0, .null]))] U.heap ∧ va_K D vwCl [] U ∧ va_D (fun _ => True) [(h0, .inr (1, [.int 0, .int 0, .null]))] ∧ NW U ∧ va_AO "SlowPanes$Pane" U ∧ va_AO "SlowPanes$Sheet" U)) (va_Qv (fun _ : (Nat → Nat) × (Nat → ClassId) => True) (fun u t => va_P D vwCl [(h0, .inr (1, [.int x1, .int x2, .ref t3]))] t.heap ∧ va_K D vwCl [] t ∧ va_D (va_A [(h0, .inr (1, [.int 0, .int 0, .null]))] sz) [(h0, .inr (1, [.int x1, .int x2, .ref t3]))]) (va_A [(h0, .inr (1, [.int 0, .int 0, .null]))] sz)) 0 0 (va_A [(h0, .inr (1, [.int 0, .int 0, .null]))] sz) := by
  refine Met.ofW (cc := cX8_init) (maxL := 4) (ret := none) (by decide) rfl ?_
  intro p e s m args below meth c s₁ B hml hv
  obtain ⟨rfl, hsz, hP, hK, hD0, hN, hAO⟩ := hv
  have hx := B.exec
  have hb := B.bytes
  have hr := B.returns
  have hts := atoms_spec (ws := wsX8_init) B.pre
  have hown : s.vm.findClass RX8 = some m.cls := findClass_of_methodNamed B.named
  have hlocks := B.notSynchronized
  have hin : meth.name = "<init>" := (name_of_methodNamed B.named B.method).1
  subst hsz
  have hD := hD0.self (sz := s.heap.size)
  generalize hAe : va_A [(h0, .inr (1, [.int 0, .int 0, .null]))] s.heap.size = A at hD ⊢
  have hA : ∀ q : Nat, s.heap.size ≤ q → A q := fun q h => by rw [← hAe]; exact Or.inr h
  have hS : va_S A s.heap s.heap [] := va_S.rf
  have hP : va_P D vwCl [(h0, .inr (1, [.int 0, .int 0, .null]))] s.heap := hP
  have hiX1 : ∀ w ∈ u_ws RX1 TX1 3, w ∈ wsX8_init := by decide +kernel
  have lk0 := hts (.methodLink RX8 1 objectInit) (by decide +kernel)
  have lk1 := hts (.instanceMethod objectInit) (by decide +kernel)
  have lk2 := hts (.code objectInit ⟨#[0xb1]⟩ 1 none) (by decide +kernel)
  have lk3 := hts (.fieldLink RX8 7 "SlowPanes$Thing" "n" "I") (by decide +kernel)
  have lk4 := hts (.fieldLink RX8 13 "SlowPanes$Thing" "a" "I") (by decide +kernel)
  have lk5 := hts (.fieldLink RX8 16 "SlowPanes$Thing" "trace" "LSlowPanes$Trace;") (by decide +kernel)
  have hl := lv_entry ([.ref h0, .int x1, .int x2, .ref t3]) (n := 4) (Nat.le_of_ble_eq_true rfl)
  rw [lg_entry_eq]
  generalize (lg_sl ([.ref h0, .int x1, .int x2, .ref t3]) ++ List.replicate (4 - (lg_sl ([.ref h0, .int x1, .int x2, .ref t3])).length) Slot.unset).toArray = ls at hl ⊢
  have hl : lv_has ls 4 [(0, .ref h0), (1, .int x1), (2, .int x2), (3, .ref t3)] := hl
  refine lv_aload_n hx hb dX8_init_0 rfl (lv_at hl 0 rfl) ?_
  refine W.objInit hx hb hown lk0 lk1 lk2 rfl (by rw [hml]; exact hl.1) rfl dX8_init_1 (Nat.le_of_ble_eq_true rfl) (Nat.le_of_ble_eq_true rfl) ?_
  refine W.eq (g2 := F0 m 4 ls []) rfl ?_
  refine lv_aload_n hx hb dX8_init_4 rfl (lv_at hl 0 rfl) ?_
  refine lv_iload_n hx hb dX8_init_5 rfl (lv_at hl 1 rfl) ?_
  refine va_putF (D := D) (ci := 1) (v := .int x1) (ty := .int) (C := RX1) (T := TX1) (N := 3) hx hb hts hiX1 tyX1 tyX1_ok nmX1 hown hK hP hD hS 0 rfl rfl 0 (by decide) lk3 (fun _ h => h) rfl hin rfl (by decide +kernel) rfl rfl (Nat.le_of_ble_eq_true rfl) dX8_init_6 (fun H locs hP hD hS => ?_)
  have hP : va_P D vwCl [(h0, .inr (1, [.int x1, .int 0, .null]))] H := hP
  have hD : va_D A [(h0, .inr (1, [.int x1, .int 0, .null]))] := hD
  refine lv_aload_n hx hb dX8_init_9 rfl (lv_at hl 0 rfl) ?_
  refine lv_iload_n hx hb dX8_init_10 rfl (lv_at hl 2 rfl) ?_
  refine va_putF (D := D) (ci := 1) (v := .int x2) (ty := .int) (C := RX1) (T := TX1) (N := 3) hx hb hts hiX1 tyX1 tyX1_ok nmX1 hown hK hP hD hS 0 rfl rfl 1 (by decide) lk4 (fun _ h => h) rfl hin rfl (by decide +kernel) rfl rfl (Nat.le_of_ble_eq_true rfl) dX8_init_11 (fun H locs hP hD hS => ?_)
  have hP : va_P D vwCl [(h0, .inr (1, [.int x1, .int x2, .null]))] H := hP
  have hD : va_D A [(h0, .inr (1, [.int x1, .int x2, .null]))] := hD
  refine lv_aload_n hx hb dX8_init_14 rfl (lv_at hl 0 rfl) ?_
  refine lv_aload_n hx hb dX8_init_15 rfl (lv_at hl 3 rfl) ?_
  refine va_putF (D := D) (ci := 1) (v := .ref t3) (ty := .object "SlowPanes$Trace") (C := RX1) (T := TX1) (N := 3) hx hb hts hiX1 tyX1 tyX1_ok nmX1 hown hK hP hD hS 0 rfl rfl 2 (by decide) lk5 (fun _ h => h) rfl hin rfl (by decide +kernel) rfl rfl (Nat.le_of_ble_eq_true rfl) dX8_init_16 (fun H locs hP hD hS => ?_)
  have hP : va_P D vwCl [(h0, .inr (1, [.int x1, .int x2, .ref t3]))] H := hP
  have hD : va_D A [(h0, .inr (1, [.int x1, .int x2, .ref t3]))] := hD
  exact W.vret hx hb hr (fun t ht hW => ⟨⟨(fun j => ([] : List Nat).getD j 0, fun j => ([] : List ClassId).getD j 0), rfl, trivial, by rw [ht]; exact hP, va_K.moved hW.alike hK, hD⟩, hS.F ht⟩) hS.2.2 dX8_init_19 hlocks
set_option maxHeartbeats 4000000 in
set_option maxRecDepth 100000 in
theorem c_X8_init_c2 (l : Launch) (D : va_G) (h0 : Nat) (x1 : Int32) (x2 : Int32) (t3 : Nat) (sz : Nat) : Met l yX8_init wsX8_init { frames := 1, cells := 0, slots := 0, locals := 20 } (va_Pc [.ref h0, .int x1, .int x2, .ref t3] (fun U => U.heap.size = sz ∧ va_P D vwCl [(h0, .inr (2, [.int 0, .int 0, .null]))] U.heap ∧ va_K D vwCl [] U ∧ va_D (fun _ => True) [(h0, .inr (2, [.int 0, .int 0, .null]))] ∧ NW U ∧ va_AO "SlowPanes$Pane" U ∧ va_AO "SlowPanes$Sheet" U)) (va_Qv (fun _ : (Nat → Nat) × (Nat → ClassId) => True) (fun u t => va_P D vwCl [(h0, .inr (2, [.int x1, .int x2, .ref t3]))] t.heap ∧ va_K D vwCl [] t ∧ va_D (va_A [(h0, .inr (2, [.int 0, .int 0, .null]))] sz) [(h0, .inr (2, [.int x1, .int x2, .ref t3]))]) (va_A [(h0, .inr (2, [.int 0, .int 0, .null]))] sz)) 0 0 (va_A [(h0, .inr (2, [.int 0, .int 0, .null]))] sz) := by
  refine Met.ofW (cc := cX8_init) (maxL := 4) (ret := none) (by decide) rfl ?_
  intro p e s m args below meth c s₁ B hml hv
  obtain ⟨rfl, hsz, hP, hK, hD0, hN, hAO⟩ := hv
  have hx := B.exec
  have hb := B.bytes
  have hr := B.returns
  have hts := atoms_spec (ws := wsX8_init) B.pre
  have hown : s.vm.findClass RX8 = some m.cls := findClass_of_methodNamed B.named
  have hlocks := B.notSynchronized
  have hin : meth.name = "<init>" := (name_of_methodNamed B.named B.method).1
  subst hsz
  have hD := hD0.self (sz := s.heap.size)
  generalize hAe : va_A [(h0, .inr (2, [.int 0, .int 0, .null]))] s.heap.size = A at hD ⊢
  have hA : ∀ q : Nat, s.heap.size ≤ q → A q := fun q h => by rw [← hAe]; exact Or.inr h
  have hS : va_S A s.heap s.heap [] := va_S.rf
  have hP : va_P D vwCl [(h0, .inr (2, [.int 0, .int 0, .null]))] s.heap := hP
  have hiX2 : ∀ w ∈ u_ws RX2 TX2 3, w ∈ wsX8_init := by decide +kernel
  have lk0 := hts (.methodLink RX8 1 objectInit) (by decide +kernel)
  have lk1 := hts (.instanceMethod objectInit) (by decide +kernel)
  have lk2 := hts (.code objectInit ⟨#[0xb1]⟩ 1 none) (by decide +kernel)
  have lk3 := hts (.fieldLink RX8 7 "SlowPanes$Thing" "n" "I") (by decide +kernel)
  have lk4 := hts (.fieldLink RX8 13 "SlowPanes$Thing" "a" "I") (by decide +kernel)
  have lk5 := hts (.fieldLink RX8 16 "SlowPanes$Thing" "trace" "LSlowPanes$Trace;") (by decide +kernel)
  have hl := lv_entry ([.ref h0, .int x1, .int x2, .ref t3]) (n := 4) (Nat.le_of_ble_eq_true rfl)
  rw [lg_entry_eq]
  generalize (lg_sl ([.ref h0, .int x1, .int x2, .ref t3]) ++ List.replicate (4 - (lg_sl ([.ref h0, .int x1, .int x2, .ref t3])).length) Slot.unset).toArray = ls at hl ⊢
  have hl : lv_has ls 4 [(0, .ref h0), (1, .int x1), (2, .int x2), (3, .ref t3)] := hl
  refine lv_aload_n hx hb dX8_init_0 rfl (lv_at hl 0 rfl) ?_
  refine W.objInit hx hb hown lk0 lk1 lk2 rfl (by rw [hml]; exact hl.1) rfl dX8_init_1 (Nat.le_of_ble_eq_true rfl) (Nat.le_of_ble_eq_true rfl) ?_
  refine W.eq (g2 := F0 m 4 ls []) rfl ?_
  refine lv_aload_n hx hb dX8_init_4 rfl (lv_at hl 0 rfl) ?_
  refine lv_iload_n hx hb dX8_init_5 rfl (lv_at hl 1 rfl) ?_
  refine va_putF (D := D) (ci := 2) (v := .int x1) (ty := .int) (C := RX2) (T := TX2) (N := 3) hx hb hts hiX2 tyX2 tyX2_ok nmX2 hown hK hP hD hS 0 rfl rfl 0 (by decide) lk3 (fun _ h => h) rfl hin rfl (by decide +kernel) rfl rfl (Nat.le_of_ble_eq_true rfl) dX8_init_6 (fun H locs hP hD hS => ?_)
  have hP : va_P D vwCl [(h0, .inr (2, [.int x1, .int 0, .null]))] H := hP
  have hD : va_D A [(h0, .inr (2, [.int x1, .int 0, .null]))] := hD
  refine lv_aload_n hx hb dX8_init_9 rfl (lv_at hl 0 rfl) ?_
  refine lv_iload_n hx hb dX8_init_10 rfl (lv_at hl 2 rfl) ?_
  refine va_putF (D := D) (ci := 2) (v := .int x2) (ty := .int) (C := RX2) (T := TX2) (N := 3) hx hb hts hiX2 tyX2 tyX2_ok nmX2 hown hK hP hD hS 0 rfl rfl 1 (by decide) lk4 (fun _ h => h) rfl hin rfl (by decide +kernel) rfl rfl (Nat.le_of_ble_eq_true rfl) dX8_init_11 (fun H locs hP hD hS => ?_)
  have hP : va_P D vwCl [(h0, .inr (2, [.int x1, .int x2, .null]))] H := hP
  have hD : va_D A [(h0, .inr (2, [.int x1, .int x2, .null]))] := hD
  refine lv_aload_n hx hb dX8_init_14 rfl (lv_at hl 0 rfl) ?_
  refine lv_aload_n hx hb dX8_init_15 rfl (lv_at hl 3 rfl) ?_
  refine va_putF (D := D) (ci := 2) (v := .ref t3) (ty := .object "SlowPanes$Trace") (C := RX2) (T := TX2) (N := 3) hx hb hts hiX2 tyX2 tyX2_ok nmX2 hown hK hP hD hS 0 rfl rfl 2 (by decide) lk5 (fun _ h => h) rfl hin rfl (by decide +kernel) rfl rfl (Nat.le_of_ble_eq_true rfl) dX8_init_16 (fun H locs hP hD hS => ?_)
  have hP : va_P D vwCl [(h0, .inr (2, [.int x1, .int x2, .ref t3]))] H := hP
  have hD : va_D A [(h0, .inr (2, [.int x1, .int x2, .ref t3]))] := hD
  exact W.vret hx hb hr (fun t ht hW => ⟨⟨(fun j => ([] : List Nat).getD j 0, fun j => ([] : List ClassId).getD j 0), rfl, trivial, by rw [ht]; exact hP, va_K.moved hW.alike hK, hD⟩, hS.F ht⟩) hS.2.2 dX8_init_19 hlocks
set_option maxHeartbeats 4000000 in
set_option maxRecDepth 100000 in
theorem c_X8_init_c5 (l : Launch) (D : va_G) (h0 : Nat) (x1 : Int32) (x2 : Int32) (t3 : Nat) (sz : Nat) : Met l yX8_init wsX8_init { frames := 1, cells := 0, slots := 0, locals := 20 } (va_Pc [.ref h0, .int x1, .int x2, .ref t3] (fun U => U.heap.size = sz ∧ va_P D vwCl [(h0, .inr (5, [.int 0, .int 0, .null]))] U.heap ∧ va_K D vwCl [] U ∧ va_D (fun _ => True) [(h0, .inr (5, [.int 0, .int 0, .null]))] ∧ NW U ∧ va_AO "SlowPanes$Pane" U ∧ va_AO "SlowPanes$Sheet" U)) (va_Qv (fun _ : (Nat → Nat) × (Nat → ClassId) => True) (fun u t => va_P D vwCl [(h0, .inr (5, [.int x1, .int x2, .ref t3]))] t.heap ∧ va_K D vwCl [] t ∧ va_D (va_A [(h0, .inr (5, [.int 0, .int 0, .null]))] sz) [(h0, .inr (5, [.int x1, .int x2, .ref t3]))]) (va_A [(h0, .inr (5, [.int 0, .int 0, .null]))] sz)) 0 0 (va_A [(h0, .inr (5, [.int 0, .int 0, .null]))] sz) := by
  refine Met.ofW (cc := cX8_init) (maxL := 4) (ret := none) (by decide) rfl ?_
  intro p e s m args below meth c s₁ B hml hv
  obtain ⟨rfl, hsz, hP, hK, hD0, hN, hAO⟩ := hv
  have hx := B.exec
  have hb := B.bytes
  have hr := B.returns
  have hts := atoms_spec (ws := wsX8_init) B.pre
  have hown : s.vm.findClass RX8 = some m.cls := findClass_of_methodNamed B.named
  have hlocks := B.notSynchronized
  have hin : meth.name = "<init>" := (name_of_methodNamed B.named B.method).1
  subst hsz
  have hD := hD0.self (sz := s.heap.size)
  generalize hAe : va_A [(h0, .inr (5, [.int 0, .int 0, .null]))] s.heap.size = A at hD ⊢
  have hA : ∀ q : Nat, s.heap.size ≤ q → A q := fun q h => by rw [← hAe]; exact Or.inr h
  have hS : va_S A s.heap s.heap [] := va_S.rf
  have hP : va_P D vwCl [(h0, .inr (5, [.int 0, .int 0, .null]))] s.heap := hP
  have hiX5 : ∀ w ∈ u_ws RX5 TX5 3, w ∈ wsX8_init := by decide +kernel
  have lk0 := hts (.methodLink RX8 1 objectInit) (by decide +kernel)
  have lk1 := hts (.instanceMethod objectInit) (by decide +kernel)
  have lk2 := hts (.code objectInit ⟨#[0xb1]⟩ 1 none) (by decide +kernel)
  have lk3 := hts (.fieldLink RX8 7 "SlowPanes$Thing" "n" "I") (by decide +kernel)
  have lk4 := hts (.fieldLink RX8 13 "SlowPanes$Thing" "a" "I") (by decide +kernel)
  have lk5 := hts (.fieldLink RX8 16 "SlowPanes$Thing" "trace" "LSlowPanes$Trace;") (by decide +kernel)
  have hl := lv_entry ([.ref h0, .int x1, .int x2, .ref t3]) (n := 4) (Nat.le_of_ble_eq_true rfl)
  rw [lg_entry_eq]
  generalize (lg_sl ([.ref h0, .int x1, .int x2, .ref t3]) ++ List.replicate (4 - (lg_sl ([.ref h0, .int x1, .int x2, .ref t3])).length) Slot.unset).toArray = ls at hl ⊢
  have hl : lv_has ls 4 [(0, .ref h0), (1, .int x1), (2, .int x2), (3, .ref t3)] := hl
  refine lv_aload_n hx hb dX8_init_0 rfl (lv_at hl 0 rfl) ?_
  refine W.objInit hx hb hown lk0 lk1 lk2 rfl (by rw [hml]; exact hl.1) rfl dX8_init_1 (Nat.le_of_ble_eq_true rfl) (Nat.le_of_ble_eq_true rfl) ?_
  refine W.eq (g2 := F0 m 4 ls []) rfl ?_
  refine lv_aload_n hx hb dX8_init_4 rfl (lv_at hl 0 rfl) ?_
  refine lv_iload_n hx hb dX8_init_5 rfl (lv_at hl 1 rfl) ?_
  refine va_putF (D := D) (ci := 5) (v := .int x1) (ty := .int) (C := RX5) (T := TX5) (N := 3) hx hb hts hiX5 tyX5 tyX5_ok nmX5 hown hK hP hD hS 0 rfl rfl 0 (by decide) lk3 (fun _ h => h) rfl hin rfl (by decide +kernel) rfl rfl (Nat.le_of_ble_eq_true rfl) dX8_init_6 (fun H locs hP hD hS => ?_)
  have hP : va_P D vwCl [(h0, .inr (5, [.int x1, .int 0, .null]))] H := hP
  have hD : va_D A [(h0, .inr (5, [.int x1, .int 0, .null]))] := hD
  refine lv_aload_n hx hb dX8_init_9 rfl (lv_at hl 0 rfl) ?_
  refine lv_iload_n hx hb dX8_init_10 rfl (lv_at hl 2 rfl) ?_
  refine va_putF (D := D) (ci := 5) (v := .int x2) (ty := .int) (C := RX5) (T := TX5) (N := 3) hx hb hts hiX5 tyX5 tyX5_ok nmX5 hown hK hP hD hS 0 rfl rfl 1 (by decide) lk4 (fun _ h => h) rfl hin rfl (by decide +kernel) rfl rfl (Nat.le_of_ble_eq_true rfl) dX8_init_11 (fun H locs hP hD hS => ?_)
  have hP : va_P D vwCl [(h0, .inr (5, [.int x1, .int x2, .null]))] H := hP
  have hD : va_D A [(h0, .inr (5, [.int x1, .int x2, .null]))] := hD
  refine lv_aload_n hx hb dX8_init_14 rfl (lv_at hl 0 rfl) ?_
  refine lv_aload_n hx hb dX8_init_15 rfl (lv_at hl 3 rfl) ?_
  refine va_putF (D := D) (ci := 5) (v := .ref t3) (ty := .object "SlowPanes$Trace") (C := RX5) (T := TX5) (N := 3) hx hb hts hiX5 tyX5 tyX5_ok nmX5 hown hK hP hD hS 0 rfl rfl 2 (by decide) lk5 (fun _ h => h) rfl hin rfl (by decide +kernel) rfl rfl (Nat.le_of_ble_eq_true rfl) dX8_init_16 (fun H locs hP hD hS => ?_)
  have hP : va_P D vwCl [(h0, .inr (5, [.int x1, .int x2, .ref t3]))] H := hP
  have hD : va_D A [(h0, .inr (5, [.int x1, .int x2, .ref t3]))] := hD
  exact W.vret hx hb hr (fun t ht hW => ⟨⟨(fun j => ([] : List Nat).getD j 0, fun j => ([] : List ClassId).getD j 0), rfl, trivial, by rw [ht]; exact hP, va_K.moved hW.alike hK, hD⟩, hS.F ht⟩) hS.2.2 dX8_init_19 hlocks
set_option maxHeartbeats 4000000 in
set_option maxRecDepth 100000 in
theorem c_X8_init_c7 (l : Launch) (D : va_G) (h0 : Nat) (x1 : Int32) (x2 : Int32) (t3 : Nat) (sz : Nat) : Met l yX8_init wsX8_init { frames := 1, cells := 0, slots := 0, locals := 20 } (va_Pc [.ref h0, .int x1, .int x2, .ref t3] (fun U => U.heap.size = sz ∧ va_P D vwCl [(h0, .inr (7, [.int 0, .int 0, .null]))] U.heap ∧ va_K D vwCl [] U ∧ va_D (fun _ => True) [(h0, .inr (7, [.int 0, .int 0, .null]))] ∧ NW U ∧ va_AO "SlowPanes$Pane" U ∧ va_AO "SlowPanes$Sheet" U)) (va_Qv (fun _ : (Nat → Nat) × (Nat → ClassId) => True) (fun u t => va_P D vwCl [(h0, .inr (7, [.int x1, .int x2, .ref t3]))] t.heap ∧ va_K D vwCl [] t ∧ va_D (va_A [(h0, .inr (7, [.int 0, .int 0, .null]))] sz) [(h0, .inr (7, [.int x1, .int x2, .ref t3]))]) (va_A [(h0, .inr (7, [.int 0, .int 0, .null]))] sz)) 0 0 (va_A [(h0, .inr (7, [.int 0, .int 0, .null]))] sz) := by
  refine Met.ofW (cc := cX8_init) (maxL := 4) (ret := none) (by decide) rfl ?_
  intro p e s m args below meth c s₁ B hml hv
  obtain ⟨rfl, hsz, hP, hK, hD0, hN, hAO⟩ := hv
  have hx := B.exec
  have hb := B.bytes
  have hr := B.returns
  have hts := atoms_spec (ws := wsX8_init) B.pre
  have hown : s.vm.findClass RX8 = some m.cls := findClass_of_methodNamed B.named
  have hlocks := B.notSynchronized
  have hin : meth.name = "<init>" := (name_of_methodNamed B.named B.method).1
  subst hsz
  have hD := hD0.self (sz := s.heap.size)
  generalize hAe : va_A [(h0, .inr (7, [.int 0, .int 0, .null]))] s.heap.size = A at hD ⊢
  have hA : ∀ q : Nat, s.heap.size ≤ q → A q := fun q h => by rw [← hAe]; exact Or.inr h
  have hS : va_S A s.heap s.heap [] := va_S.rf
  have hP : va_P D vwCl [(h0, .inr (7, [.int 0, .int 0, .null]))] s.heap := hP
  have hiX7 : ∀ w ∈ u_ws RX7 TX7 3, w ∈ wsX8_init := by decide +kernel
  have lk0 := hts (.methodLink RX8 1 objectInit) (by decide +kernel)
  have lk1 := hts (.instanceMethod objectInit) (by decide +kernel)
  have lk2 := hts (.code objectInit ⟨#[0xb1]⟩ 1 none) (by decide +kernel)
  have lk3 := hts (.fieldLink RX8 7 "SlowPanes$Thing" "n" "I") (by decide +kernel)
  have lk4 := hts (.fieldLink RX8 13 "SlowPanes$Thing" "a" "I") (by decide +kernel)
  have lk5 := hts (.fieldLink RX8 16 "SlowPanes$Thing" "trace" "LSlowPanes$Trace;") (by decide +kernel)
  have hl := lv_entry ([.ref h0, .int x1, .int x2, .ref t3]) (n := 4) (Nat.le_of_ble_eq_true rfl)
  rw [lg_entry_eq]
  generalize (lg_sl ([.ref h0, .int x1, .int x2, .ref t3]) ++ List.replicate (4 - (lg_sl ([.ref h0, .int x1, .int x2, .ref t3])).length) Slot.unset).toArray = ls at hl ⊢
  have hl : lv_has ls 4 [(0, .ref h0), (1, .int x1), (2, .int x2), (3, .ref t3)] := hl
  refine lv_aload_n hx hb dX8_init_0 rfl (lv_at hl 0 rfl) ?_
  refine W.objInit hx hb hown lk0 lk1 lk2 rfl (by rw [hml]; exact hl.1) rfl dX8_init_1 (Nat.le_of_ble_eq_true rfl) (Nat.le_of_ble_eq_true rfl) ?_
  refine W.eq (g2 := F0 m 4 ls []) rfl ?_
  refine lv_aload_n hx hb dX8_init_4 rfl (lv_at hl 0 rfl) ?_
  refine lv_iload_n hx hb dX8_init_5 rfl (lv_at hl 1 rfl) ?_
  refine va_putF (D := D) (ci := 7) (v := .int x1) (ty := .int) (C := RX7) (T := TX7) (N := 3) hx hb hts hiX7 tyX7 tyX7_ok nmX7 hown hK hP hD hS 0 rfl rfl 0 (by decide) lk3 (fun _ h => h) rfl hin rfl (by decide +kernel) rfl rfl (Nat.le_of_ble_eq_true rfl) dX8_init_6 (fun H locs hP hD hS => ?_)
  have hP : va_P D vwCl [(h0, .inr (7, [.int x1, .int 0, .null]))] H := hP
  have hD : va_D A [(h0, .inr (7, [.int x1, .int 0, .null]))] := hD
  refine lv_aload_n hx hb dX8_init_9 rfl (lv_at hl 0 rfl) ?_
  refine lv_iload_n hx hb dX8_init_10 rfl (lv_at hl 2 rfl) ?_
  refine va_putF (D := D) (ci := 7) (v := .int x2) (ty := .int) (C := RX7) (T := TX7) (N := 3) hx hb hts hiX7 tyX7 tyX7_ok nmX7 hown hK hP hD hS 0 rfl rfl 1 (by decide) lk4 (fun _ h => h) rfl hin rfl (by decide +kernel) rfl rfl (Nat.le_of_ble_eq_true rfl) dX8_init_11 (fun H locs hP hD hS => ?_)
  have hP : va_P D vwCl [(h0, .inr (7, [.int x1, .int x2, .null]))] H := hP
  have hD : va_D A [(h0, .inr (7, [.int x1, .int x2, .null]))] := hD
  refine lv_aload_n hx hb dX8_init_14 rfl (lv_at hl 0 rfl) ?_
  refine lv_aload_n hx hb dX8_init_15 rfl (lv_at hl 3 rfl) ?_
  refine va_putF (D := D) (ci := 7) (v := .ref t3) (ty := .object "SlowPanes$Trace") (C := RX7) (T := TX7) (N := 3) hx hb hts hiX7 tyX7 tyX7_ok nmX7 hown hK hP hD hS 0 rfl rfl 2 (by decide) lk5 (fun _ h => h) rfl hin rfl (by decide +kernel) rfl rfl (Nat.le_of_ble_eq_true rfl) dX8_init_16 (fun H locs hP hD hS => ?_)
  have hP : va_P D vwCl [(h0, .inr (7, [.int x1, .int x2, .ref t3]))] H := hP
  have hD : va_D A [(h0, .inr (7, [.int x1, .int x2, .ref t3]))] := hD
  exact W.vret hx hb hr (fun t ht hW => ⟨⟨(fun j => ([] : List Nat).getD j 0, fun j => ([] : List ClassId).getD j 0), rfl, trivial, by rw [ht]; exact hP, va_K.moved hW.alike hK, hD⟩, hS.F ht⟩) hS.2.2 dX8_init_19 hlocks
set_option maxHeartbeats 4000000 in
set_option maxRecDepth 100000 in
theorem c_X0_init (l : Launch) (D : va_G) (h0 : Nat) (x1 : Int32) (x2 : Int32) (t3 : Nat) (sz : Nat) : Met l yX0_init wsX0_init { frames := 2, cells := 0, slots := 0, locals := 43 } (va_Pc [.ref h0, .int x1, .int x2, .ref t3] (fun U => U.heap.size = sz ∧ va_P D vwCl [(h0, .inr (0, [.int 0, .int 0, .null]))] U.heap ∧ va_K D vwCl [] U ∧ va_D (fun _ => True) [(h0, .inr (0, [.int 0, .int 0, .null]))] ∧ NW U ∧ va_AO "SlowPanes$Pane" U ∧ va_AO "SlowPanes$Sheet" U)) (va_Qv (fun _ : (Nat → Nat) × (Nat → ClassId) => True) (fun u t => va_P D vwCl [(h0, .inr (0, [.int x1, .int x2, .ref t3]))] t.heap ∧ va_K D vwCl [] t ∧ va_D (va_A [(h0, .inr (0, [.int 0, .int 0, .null]))] sz) [(h0, .inr (0, [.int x1, .int x2, .ref t3]))]) (va_A [(h0, .inr (0, [.int 0, .int 0, .null]))] sz)) 0 0 (va_A [(h0, .inr (0, [.int 0, .int 0, .null]))] sz) := by
  refine Met.ofW (cc := cX0_init) (maxL := 4) (ret := none) (by decide) rfl ?_
  intro p e s m args below meth c s₁ B hml hv
  obtain ⟨rfl, hsz, hP, hK, hD0, hN, hAO⟩ := hv
  have hx := B.exec
  have hb := B.bytes
  have hr := B.returns
  have hts := atoms_spec (ws := wsX0_init) B.pre
  have hown : s.vm.findClass RX0 = some m.cls := findClass_of_methodNamed B.named
  have hlocks := B.notSynchronized
  have hin : meth.name = "<init>" := (name_of_methodNamed B.named B.method).1
  subst hsz
  have hD := hD0.self (sz := s.heap.size)
  generalize hAe : va_A [(h0, .inr (0, [.int 0, .int 0, .null]))] s.heap.size = A at hD ⊢
  have hA : ∀ q : Nat, s.heap.size ≤ q → A q := fun q h => by rw [← hAe]; exact Or.inr h
  have hS : va_S A s.heap s.heap [] := va_S.rf
  have hP : va_P D vwCl [(h0, .inr (0, [.int 0, .int 0, .null]))] s.heap := hP
  have lk0 := hts (.initialized RX8) (by decide +kernel)
  have lk1 := hts (.instanceMethod yX8_init) (by decide +kernel)
  have lk2 := hts (.methodLink RX0 1 yX8_init) (by decide +kernel)
  have hl := lv_entry ([.ref h0, .int x1, .int x2, .ref t3]) (n := 4) (Nat.le_of_ble_eq_true rfl)
  rw [lg_entry_eq]
  generalize (lg_sl ([.ref h0, .int x1, .int x2, .ref t3]) ++ List.replicate (4 - (lg_sl ([.ref h0, .int x1, .int x2, .ref t3])).length) Slot.unset).toArray = ls at hl ⊢
  have hl : lv_has ls 4 [(0, .ref h0), (1, .int x1), (2, .int x2), (3, .ref t3)] := hl
  refine lv_aload_n hx hb dX0_init_0 rfl (lv_at hl 0 rfl) ?_
  refine lv_iload_n hx hb dX0_init_1 rfl (lv_at hl 1 rfl) ?_
  refine lv_iload_n hx hb dX0_init_2 rfl (lv_at hl 2 rfl) ?_
  refine lv_aload_n hx hb dX0_init_3 rfl (lv_at hl 3 rfl) ?_
  have hPc := hP.sub (ws' := [(h0, .inr (0, [.int 0, .int 0, .null]))]) [0] rfl
  have hDc := hD.sub (ws' := [(h0, .inr (0, [.int 0, .int 0, .null]))]) [0] (by decide) rfl
  have hKc := hK.sub (tys' := []) [] rfl
  have hFc := va_free (wc := [(h0, .inr (0, [.int 0, .int 0, .null]))]) hD hS hA [0] rfl
  have hk1 : 0 ≤ 0 := by decide
  have hk2 : 0 ≤ 0 := Nat.le_of_ble_eq_true rfl
  refine va_callv (va_runI (As := [.int x1, .int x2, .ref t3]) (rest := []) ⟨hx, hb, hml, hown, hts⟩ (c_X8_init_c0 l D h0 x1 x2 t3 s.heap.size) (cwI 3 hts gX0_init_X8_init rfl rfl rfl lk0 lk2 lk1 rfl (by decide +kernel) ⟨(Nat.le_of_ble_eq_true rfl), (Nat.le_of_ble_eq_true rfl)⟩) ⟨i_blind, fun U hU hW => ⟨rfl, by rw [hU], by rw [hU]; exact hPc, va_K.moved hW.alike hKc, hDc.weaken (fun _ _ _ _ => trivial), hN.warm hW, hAO.1.moved hW.alike, hAO.2.moved hW.alike⟩⟩ rfl rfl hl.1 rfl (lv_room (Nat.le_of_ble_eq_true rfl)) dX0_init_4 ⟨hk1, hk2⟩) hS (fun q _ h => hFc q h) hFc (fun u3 t H1 locs ht hvm hw hB hz1 hk1 hS => ?_)
  obtain ⟨hP1, hK1, hD1⟩ := hB
  rw [ht] at hP1
  have hK1 := va_K.moved hvm.symm hK1
  obtain ⟨hP, hD⟩ := va_join (wr := []) (w1 := [(h0, .inr (0, [.int x1, .int x2, .ref t3]))]) hP hD [0] [] rfl rfl (by decide) (by decide) hk1 hFc hP1 hD1
  have hK := (hK.sub (tys' := []) [] rfl).app hK1
  generalize H1 = H at hP hS ⊢
  have hP := hP.sub (ws' := [(h0, .inr (0, [.int x1, .int x2, .ref t3]))]) [0] rfl
  have hD := hD.sub (ws' := [(h0, .inr (0, [.int x1, .int x2, .ref t3]))]) [0] (by decide) rfl
  have hK : va_K D vwCl [] s := hK
  have hK := hK.sub (tys' := []) [] rfl
  have hP : va_P D vwCl [(h0, .inr (0, [.int x1, .int x2, .ref t3]))] H := hP
  have hD : va_D A [(h0, .inr (0, [.int x1, .int x2, .ref t3]))] := hD
  refine W.widen (k := 0) (n := 0) (Nat.le_refl _) (Nat.le_of_ble_eq_true rfl) ?_
  exact W.vret hx hb hr (fun t ht hW => ⟨⟨(fun j => ([] : List Nat).getD j 0, fun j => ([] : List ClassId).getD j 0), rfl, trivial, by rw [ht]; exact hP, va_K.moved hW.alike hK, hD⟩, hS.F ht⟩) hS.2.2 dX0_init_7 hlocks
set_option maxHeartbeats 4000000 in
set_option maxRecDepth 100000 in
theorem c_X0_init_c5 (l : Launch) (D : va_G) (h0 : Nat) (x1 : Int32) (x2 : Int32) (t3 : Nat) (sz : Nat) : Met l yX0_init wsX0_init { frames := 2, cells := 0, slots := 0, locals := 43 } (va_Pc [.ref h0, .int x1, .int x2, .ref t3] (fun U => U.heap.size = sz ∧ va_P D vwCl [(h0, .inr (5, [.int 0, .int 0, .null]))] U.heap ∧ va_K D vwCl [] U ∧ va_D (fun _ => True) [(h0, .inr (5, [.int 0, .int 0, .null]))] ∧ NW U ∧ va_AO "SlowPanes$Pane" U ∧ va_AO "SlowPanes$Sheet" U)) (va_Qv (fun _ : (Nat → Nat) × (Nat → ClassId) => True) (fun u t => va_P D vwCl [(h0, .inr (5, [.int x1, .int x2, .ref t3]))] t.heap ∧ va_K D vwCl [] t ∧ va_D (va_A [(h0, .inr (5, [.int 0, .int 0, .null]))] sz) [(h0, .inr (5, [.int x1, .int x2, .ref t3]))]) (va_A [(h0, .inr (5, [.int 0, .int 0, .null]))] sz)) 0 0 (va_A [(h0, .inr (5, [.int 0, .int 0, .null]))] sz) := by
  refine Met.ofW (cc := cX0_init) (maxL := 4) (ret := none) (by decide) rfl ?_
  intro p e s m args below meth c s₁ B hml hv
  obtain ⟨rfl, hsz, hP, hK, hD0, hN, hAO⟩ := hv
  have hx := B.exec
  have hb := B.bytes
  have hr := B.returns
  have hts := atoms_spec (ws := wsX0_init) B.pre
  have hown : s.vm.findClass RX0 = some m.cls := findClass_of_methodNamed B.named
  have hlocks := B.notSynchronized
  have hin : meth.name = "<init>" := (name_of_methodNamed B.named B.method).1
  subst hsz
  have hD := hD0.self (sz := s.heap.size)
  generalize hAe : va_A [(h0, .inr (5, [.int 0, .int 0, .null]))] s.heap.size = A at hD ⊢
  have hA : ∀ q : Nat, s.heap.size ≤ q → A q := fun q h => by rw [← hAe]; exact Or.inr h
  have hS : va_S A s.heap s.heap [] := va_S.rf
  have hP : va_P D vwCl [(h0, .inr (5, [.int 0, .int 0, .null]))] s.heap := hP
  have lk0 := hts (.initialized RX8) (by decide +kernel)
  have lk1 := hts (.instanceMethod yX8_init) (by decide +kernel)
  have lk2 := hts (.methodLink RX0 1 yX8_init) (by decide +kernel)
  have hl := lv_entry ([.ref h0, .int x1, .int x2, .ref t3]) (n := 4) (Nat.le_of_ble_eq_true rfl)
  rw [lg_entry_eq]
  generalize (lg_sl ([.ref h0, .int x1, .int x2, .ref t3]) ++ List.replicate (4 - (lg_sl ([.ref h0, .int x1, .int x2, .ref t3])).length) Slot.unset).toArray = ls at hl ⊢
  have hl : lv_has ls 4 [(0, .ref h0), (1, .int x1), (2, .int x2), (3, .ref t3)] := hl
  refine lv_aload_n hx hb dX0_init_0 rfl (lv_at hl 0 rfl) ?_
  refine lv_iload_n hx hb dX0_init_1 rfl (lv_at hl 1 rfl) ?_
  refine lv_iload_n hx hb dX0_init_2 rfl (lv_at hl 2 rfl) ?_
  refine lv_aload_n hx hb dX0_init_3 rfl (lv_at hl 3 rfl) ?_
  have hPc := hP.sub (ws' := [(h0, .inr (5, [.int 0, .int 0, .null]))]) [0] rfl
  have hDc := hD.sub (ws' := [(h0, .inr (5, [.int 0, .int 0, .null]))]) [0] (by decide) rfl
  have hKc := hK.sub (tys' := []) [] rfl
  have hFc := va_free (wc := [(h0, .inr (5, [.int 0, .int 0, .null]))]) hD hS hA [0] rfl
  have hk1 : 0 ≤ 0 := by decide
  have hk2 : 0 ≤ 0 := Nat.le_of_ble_eq_true rfl
  refine va_callv (va_runI (As := [.int x1, .int x2, .ref t3]) (rest := []) ⟨hx, hb, hml, hown, hts⟩ (c_X8_init_c5 l D h0 x1 x2 t3 s.heap.size) (cwI 3 hts gX0_init_X8_init rfl rfl rfl lk0 lk2 lk1 rfl (by decide +kernel) ⟨(Nat.le_of_ble_eq_true rfl), (Nat.le_of_ble_eq_true rfl)⟩) ⟨i_blind, fun U hU hW => ⟨rfl, by rw [hU], by rw [hU]; exact hPc, va_K.moved hW.alike hKc, hDc.weaken (fun _ _ _ _ => trivial), hN.warm hW, hAO.1.moved hW.alike, hAO.2.moved hW.alike⟩⟩ rfl rfl hl.1 rfl (lv_room (Nat.le_of_ble_eq_true rfl)) dX0_init_4 ⟨hk1, hk2⟩) hS (fun q _ h => hFc q h) hFc (fun u3 t H1 locs ht hvm hw hB hz1 hk1 hS => ?_)
  obtain ⟨hP1, hK1, hD1⟩ := hB
  rw [ht] at hP1
  have hK1 := va_K.moved hvm.symm hK1
  obtain ⟨hP, hD⟩ := va_join (wr := []) (w1 := [(h0, .inr (5, [.int x1, .int x2, .ref t3]))]) hP hD [0] [] rfl rfl (by decide) (by decide) hk1 hFc hP1 hD1
  have hK := (hK.sub (tys' := []) [] rfl).app hK1
  generalize H1 = H at hP hS ⊢
  have hP := hP.sub (ws' := [(h0, .inr (5, [.int x1, .int x2, .ref t3]))]) [0] rfl
  have hD := hD.sub (ws' := [(h0, .inr (5, [.int x1, .int x2, .ref t3]))]) [0] (by decide) rfl
  have hK : va_K D vwCl [] s := hK
  have hK := hK.sub (tys' := []) [] rfl
  have hP : va_P D vwCl [(h0, .inr (5, [.int x1, .int x2, .ref t3]))] H := hP
  have hD : va_D A [(h0, .inr (5, [.int x1, .int x2, .ref t3]))] := hD
  refine W.widen (k := 0) (n := 0) (Nat.le_refl _) (Nat.le_of_ble_eq_true rfl) ?_
  exact W.vret hx hb hr (fun t ht hW => ⟨⟨(fun j => ([] : List Nat).getD j 0, fun j => ([] : List ClassId).getD j 0), rfl, trivial, by rw [ht]; exact hP, va_K.moved hW.alike hK, hD⟩, hS.F ht⟩) hS.2.2 dX0_init_7 hlocks
set_option maxHeartbeats 4000000 in
set_option maxRecDepth 100000 in
theorem c_X7_init (l : Launch) (D : va_G) (h0 : Nat) (x1 : Int32) (x2 : Int32) (t3 : Nat) (sz : Nat) : Met l yX7_init wsX7_init { frames := 2, cells := 0, slots := 0, locals := 43 } (va_Pc [.ref h0, .int x1, .int x2, .ref t3] (fun U => U.heap.size = sz ∧ va_P D vwCl [(h0, .inr (7, [.int 0, .int 0, .null]))] U.heap ∧ va_K D vwCl [] U ∧ va_D (fun _ => True) [(h0, .inr (7, [.int 0, .int 0, .null]))] ∧ NW U ∧ va_AO "SlowPanes$Pane" U ∧ va_AO "SlowPanes$Sheet" U)) (va_Qv (fun _ : (Nat → Nat) × (Nat → ClassId) => True) (fun u t => va_P D vwCl [(h0, .inr (7, [.int x1, .int x2, .ref t3]))] t.heap ∧ va_K D vwCl [] t ∧ va_D (va_A [(h0, .inr (7, [.int 0, .int 0, .null]))] sz) [(h0, .inr (7, [.int x1, .int x2, .ref t3]))]) (va_A [(h0, .inr (7, [.int 0, .int 0, .null]))] sz)) 0 0 (va_A [(h0, .inr (7, [.int 0, .int 0, .null]))] sz) := by
  refine Met.ofW (cc := cX7_init) (maxL := 4) (ret := none) (by decide) rfl ?_
  intro p e s m args below meth c s₁ B hml hv
  obtain ⟨rfl, hsz, hP, hK, hD0, hN, hAO⟩ := hv
  have hx := B.exec
  have hb := B.bytes
  have hr := B.returns
  have hts := atoms_spec (ws := wsX7_init) B.pre
  have hown : s.vm.findClass RX7 = some m.cls := findClass_of_methodNamed B.named
  have hlocks := B.notSynchronized
  have hin : meth.name = "<init>" := (name_of_methodNamed B.named B.method).1
  subst hsz
  have hD := hD0.self (sz := s.heap.size)
  generalize hAe : va_A [(h0, .inr (7, [.int 0, .int 0, .null]))] s.heap.size = A at hD ⊢
  have hA : ∀ q : Nat, s.heap.size ≤ q → A q := fun q h => by rw [← hAe]; exact Or.inr h
  have hS : va_S A s.heap s.heap [] := va_S.rf
  have hP : va_P D vwCl [(h0, .inr (7, [.int 0, .int 0, .null]))] s.heap := hP
  have lk0 := hts (.initialized RX8) (by decide +kernel)
  have lk1 := hts (.instanceMethod yX8_init) (by decide +kernel)
  have lk2 := hts (.methodLink RX7 1 yX8_init) (by decide +kernel)
  have hl := lv_entry ([.ref h0, .int x1, .int x2, .ref t3]) (n := 4) (Nat.le_of_ble_eq_true rfl)
  rw [lg_entry_eq]
  generalize (lg_sl ([.ref h0, .int x1, .int x2, .ref t3]) ++ List.replicate (4 - (lg_sl ([.ref h0, .int x1, .int x2, .ref t3])).length) Slot.unset).toArray = ls at hl ⊢
  have hl : lv_has ls 4 [(0, .ref h0), (1, .int x1), (2, .int x2), (3, .ref t3)] := hl
  refine lv_aload_n hx hb dX7_init_0 rfl (lv_at hl 0 rfl) ?_
  refine lv_iload_n hx hb dX7_init_1 rfl (lv_at hl 1 rfl) ?_
  refine lv_iload_n hx hb dX7_init_2 rfl (lv_at hl 2 rfl) ?_
  refine lv_aload_n hx hb dX7_init_3 rfl (lv_at hl 3 rfl) ?_
  have hPc := hP.sub (ws' := [(h0, .inr (7, [.int 0, .int 0, .null]))]) [0] rfl
  have hDc := hD.sub (ws' := [(h0, .inr (7, [.int 0, .int 0, .null]))]) [0] (by decide) rfl
  have hKc := hK.sub (tys' := []) [] rfl
  have hFc := va_free (wc := [(h0, .inr (7, [.int 0, .int 0, .null]))]) hD hS hA [0] rfl
  have hk1 : 0 ≤ 0 := by decide
  have hk2 : 0 ≤ 0 := Nat.le_of_ble_eq_true rfl
  refine va_callv (va_runI (As := [.int x1, .int x2, .ref t3]) (rest := []) ⟨hx, hb, hml, hown, hts⟩ (c_X8_init_c7 l D h0 x1 x2 t3 s.heap.size) (cwI 3 hts gX7_init_X8_init rfl rfl rfl lk0 lk2 lk1 rfl (by decide +kernel) ⟨(Nat.le_of_ble_eq_true rfl), (Nat.le_of_ble_eq_true rfl)⟩) ⟨i_blind, fun U hU hW => ⟨rfl, by rw [hU], by rw [hU]; exact hPc, va_K.moved hW.alike hKc, hDc.weaken (fun _ _ _ _ => trivial), hN.warm hW, hAO.1.moved hW.alike, hAO.2.moved hW.alike⟩⟩ rfl rfl hl.1 rfl (lv_room (Nat.le_of_ble_eq_true rfl)) dX7_init_4 ⟨hk1, hk2⟩) hS (fun q _ h => hFc q h) hFc (fun u3 t H1 locs ht hvm hw hB hz1 hk1 hS => ?_)
  obtain ⟨hP1, hK1, hD1⟩ := hB
  rw [ht] at hP1
  have hK1 := va_K.moved hvm.symm hK1
  obtain ⟨hP, hD⟩ := va_join (wr := []) (w1 := [(h0, .inr (7, [.int x1, .int x2, .ref t3]))]) hP hD [0] [] rfl rfl (by decide) (by decide) hk1 hFc hP1 hD1
  have hK := (hK.sub (tys' := []) [] rfl).app hK1
  generalize H1 = H at hP hS ⊢
  have hP := hP.sub (ws' := [(h0, .inr (7, [.int x1, .int x2, .ref t3]))]) [0] rfl
  have hD := hD.sub (ws' := [(h0, .inr (7, [.int x1, .int x2, .ref t3]))]) [0] (by decide) rfl
  have hK : va_K D vwCl [] s := hK
  have hK := hK.sub (tys' := []) [] rfl
  have hP : va_P D vwCl [(h0, .inr (7, [.int x1, .int x2, .ref t3]))] H := hP
  have hD : va_D A [(h0, .inr (7, [.int x1, .int x2, .ref t3]))] := hD
  refine W.widen (k := 0) (n := 0) (Nat.le_refl _) (Nat.le_of_ble_eq_true rfl) ?_
  exact W.vret hx hb hr (fun t ht hW => ⟨⟨(fun j => ([] : List Nat).getD j 0, fun j => ([] : List ClassId).getD j 0), rfl, trivial, by rw [ht]; exact hP, va_K.moved hW.alike hK, hD⟩, hS.F ht⟩) hS.2.2 dX7_init_7 hlocks
set_option maxHeartbeats 4000000 in
set_option maxRecDepth 100000 in
theorem c_X7_init_c1 (l : Launch) (D : va_G) (h0 : Nat) (x1 : Int32) (x2 : Int32) (t3 : Nat) (sz : Nat) : Met l yX7_init wsX7_init { frames := 2, cells := 0, slots := 0, locals := 43 } (va_Pc [.ref h0, .int x1, .int x2, .ref t3] (fun U => U.heap.size = sz ∧ va_P D vwCl [(h0, .inr (1, [.int 0, .int 0, .null]))] U.heap ∧ va_K D vwCl [] U ∧ va_D (fun _ => True) [(h0, .inr (1, [.int 0, .int 0, .null]))] ∧ NW U ∧ va_AO "SlowPanes$Pane" U ∧ va_AO "SlowPanes$Sheet" U)) (va_Qv (fun _ : (Nat → Nat) × (Nat → ClassId) => True) (fun u t => va_P D vwCl [(h0, .inr (1, [.int x1, .int x2, .ref t3]))] t.heap ∧ va_K D vwCl [] t ∧ va_D (va_A [(h0, .inr (1, [.int 0, .int 0, .null]))] sz) [(h0, .inr (1, [.int x1, .int x2, .ref t3]))]) (va_A [(h0, .inr (1, [.int 0, .int 0, .null]))] sz)) 0 0 (va_A [(h0, .inr (1, [.int 0, .int 0, .null]))] sz) := by
  refine Met.ofW (cc := cX7_init) (maxL := 4) (ret := none) (by decide) rfl ?_
  intro p e s m args below meth c s₁ B hml hv
  obtain ⟨rfl, hsz, hP, hK, hD0, hN, hAO⟩ := hv
  have hx := B.exec
  have hb := B.bytes
  have hr := B.returns
  have hts := atoms_spec (ws := wsX7_init) B.pre
  have hown : s.vm.findClass RX7 = some m.cls := findClass_of_methodNamed B.named
  have hlocks := B.notSynchronized
  have hin : meth.name = "<init>" := (name_of_methodNamed B.named B.method).1
  subst hsz
  have hD := hD0.self (sz := s.heap.size)
  generalize hAe : va_A [(h0, .inr (1, [.int 0, .int 0, .null]))] s.heap.size = A at hD ⊢
  have hA : ∀ q : Nat, s.heap.size ≤ q → A q := fun q h => by rw [← hAe]; exact Or.inr h
  have hS : va_S A s.heap s.heap [] := va_S.rf
  have hP : va_P D vwCl [(h0, .inr (1, [.int 0, .int 0, .null]))] s.heap := hP
  have lk0 := hts (.initialized RX8) (by decide +kernel)
  have lk1 := hts (.instanceMethod yX8_init) (by decide +kernel)
  have lk2 := hts (.methodLink RX7 1 yX8_init) (by decide +kernel)
  have hl := lv_entry ([.ref h0, .int x1, .int x2, .ref t3]) (n := 4) (Nat.le_of_ble_eq_true rfl)
  rw [lg_entry_eq]
  generalize (lg_sl ([.ref h0, .int x1, .int x2, .ref t3]) ++ List.replicate (4 - (lg_sl ([.ref h0, .int x1, .int x2, .ref t3])).length) Slot.unset).toArray = ls at hl ⊢
  have hl : lv_has ls 4 [(0, .ref h0), (1, .int x1), (2, .int x2), (3, .ref t3)] := hl
  refine lv_aload_n hx hb dX7_init_0 rfl (lv_at hl 0 rfl) ?_
  refine lv_iload_n hx hb dX7_init_1 rfl (lv_at hl 1 rfl) ?_
  refine lv_iload_n hx hb dX7_init_2 rfl (lv_at hl 2 rfl) ?_
  refine lv_aload_n hx hb dX7_init_3 rfl (lv_at hl 3 rfl) ?_
  have hPc := hP.sub (ws' := [(h0, .inr (1, [.int 0, .int 0, .null]))]) [0] rfl
  have hDc := hD.sub (ws' := [(h0, .inr (1, [.int 0, .int 0, .null]))]) [0] (by decide) rfl
  have hKc := hK.sub (tys' := []) [] rfl
  have hFc := va_free (wc := [(h0, .inr (1, [.int 0, .int 0, .null]))]) hD hS hA [0] rfl
  have hk1 : 0 ≤ 0 := by decide
  have hk2 : 0 ≤ 0 := Nat.le_of_ble_eq_true rfl
  refine va_callv (va_runI (As := [.int x1, .int x2, .ref t3]) (rest := []) ⟨hx, hb, hml, hown, hts⟩ (c_X8_init_c1 l D h0 x1 x2 t3 s.heap.size) (cwI 3 hts gX7_init_X8_init rfl rfl rfl lk0 lk2 lk1 rfl (by decide +kernel) ⟨(Nat.le_of_ble_eq_true rfl), (Nat.le_of_ble_eq_true rfl)⟩) ⟨i_blind, fun U hU hW => ⟨rfl, by rw [hU], by rw [hU]; exact hPc, va_K.moved hW.alike hKc, hDc.weaken (fun _ _ _ _ => trivial), hN.warm hW, hAO.1.moved hW.alike, hAO.2.moved hW.alike⟩⟩ rfl rfl hl.1 rfl (lv_room (Nat.le_of_ble_eq_true rfl)) dX7_init_4 ⟨hk1, hk2⟩) hS (fun q _ h => hFc q h) hFc (fun u3 t H1 locs ht hvm hw hB hz1 hk1 hS => ?_)
  obtain ⟨hP1, hK1, hD1⟩ := hB
  rw [ht] at hP1
  have hK1 := va_K.moved hvm.symm hK1
  obtain ⟨hP, hD⟩ := va_join (wr := []) (w1 := [(h0, .inr (1, [.int x1, .int x2, .ref t3]))]) hP hD [0] [] rfl rfl (by decide) (by decide) hk1 hFc hP1 hD1
  have hK := (hK.sub (tys' := []) [] rfl).app hK1
  generalize H1 = H at hP hS ⊢
  have hP := hP.sub (ws' := [(h0, .inr (1, [.int x1, .int x2, .ref t3]))]) [0] rfl
  have hD := hD.sub (ws' := [(h0, .inr (1, [.int x1, .int x2, .ref t3]))]) [0] (by decide) rfl
  have hK : va_K D vwCl [] s := hK
  have hK := hK.sub (tys' := []) [] rfl
  have hP : va_P D vwCl [(h0, .inr (1, [.int x1, .int x2, .ref t3]))] H := hP
  have hD : va_D A [(h0, .inr (1, [.int x1, .int x2, .ref t3]))] := hD
  refine W.widen (k := 0) (n := 0) (Nat.le_refl _) (Nat.le_of_ble_eq_true rfl) ?_
  exact W.vret hx hb hr (fun t ht hW => ⟨⟨(fun j => ([] : List Nat).getD j 0, fun j => ([] : List ClassId).getD j 0), rfl, trivial, by rw [ht]; exact hP, va_K.moved hW.alike hK, hD⟩, hS.F ht⟩) hS.2.2 dX7_init_7 hlocks
set_option maxHeartbeats 4000000 in
set_option maxRecDepth 100000 in
theorem c_X2_init (l : Launch) (D : va_G) (h0 : Nat) (x1 : Int32) (x2 : Int32) (t3 : Nat) (sz : Nat) : Met l yX2_init wsX2_init { frames := 2, cells := 0, slots := 0, locals := 43 } (va_Pc [.ref h0, .int x1, .int x2, .ref t3] (fun U => U.heap.size = sz ∧ va_P D vwCl [(h0, .inr (2, [.int 0, .int 0, .null]))] U.heap ∧ va_K D vwCl [] U ∧ va_D (fun _ => True) [(h0, .inr (2, [.int 0, .int 0, .null]))] ∧ NW U ∧ va_AO "SlowPanes$Pane" U ∧ va_AO "SlowPanes$Sheet" U)) (va_Qv (fun _ : (Nat → Nat) × (Nat → ClassId) => True) (fun u t => va_P D vwCl [(h0, .inr (2, [.int x1, .int x2, .ref t3]))] t.heap ∧ va_K D vwCl [] t ∧ va_D (va_A [(h0, .inr (2, [.int 0, .int 0, .null]))] sz) [(h0, .inr (2, [.int x1, .int x2, .ref t3]))]) (va_A [(h0, .inr (2, [.int 0, .int 0, .null]))] sz)) 0 0 (va_A [(h0, .inr (2, [.int 0, .int 0, .null]))] sz) := by
  refine Met.ofW (cc := cX2_init) (maxL := 4) (ret := none) (by decide) rfl ?_
  intro p e s m args below meth c s₁ B hml hv
  obtain ⟨rfl, hsz, hP, hK, hD0, hN, hAO⟩ := hv
  have hx := B.exec
  have hb := B.bytes
  have hr := B.returns
  have hts := atoms_spec (ws := wsX2_init) B.pre
  have hown : s.vm.findClass RX2 = some m.cls := findClass_of_methodNamed B.named
  have hlocks := B.notSynchronized
  have hin : meth.name = "<init>" := (name_of_methodNamed B.named B.method).1
  subst hsz
  have hD := hD0.self (sz := s.heap.size)
  generalize hAe : va_A [(h0, .inr (2, [.int 0, .int 0, .null]))] s.heap.size = A at hD ⊢
  have hA : ∀ q : Nat, s.heap.size ≤ q → A q := fun q h => by rw [← hAe]; exact Or.inr h
  have hS : va_S A s.heap s.heap [] := va_S.rf
  have hP : va_P D vwCl [(h0, .inr (2, [.int 0, .int 0, .null]))] s.heap := hP
  have lk0 := hts (.initialized RX8) (by decide +kernel)
  have lk1 := hts (.instanceMethod yX8_init) (by decide +kernel)
  have lk2 := hts (.methodLink RX2 1 yX8_init) (by decide +kernel)
  have hl := lv_entry ([.ref h0, .int x1, .int x2, .ref t3]) (n := 4) (Nat.le_of_ble_eq_true rfl)
  rw [lg_entry_eq]
  generalize (lg_sl ([.ref h0, .int x1, .int x2, .ref t3]) ++ List.replicate (4 - (lg_sl ([.ref h0, .int x1, .int x2, .ref t3])).length) Slot.unset).toArray = ls at hl ⊢
  have hl : lv_has ls 4 [(0, .ref h0), (1, .int x1), (2, .int x2), (3, .ref t3)] := hl
  refine lv_aload_n hx hb dX2_init_0 rfl (lv_at hl 0 rfl) ?_
  refine lv_iload_n hx hb dX2_init_1 rfl (lv_at hl 1 rfl) ?_
  refine lv_iload_n hx hb dX2_init_2 rfl (lv_at hl 2 rfl) ?_
  refine lv_aload_n hx hb dX2_init_3 rfl (lv_at hl 3 rfl) ?_
  have hPc := hP.sub (ws' := [(h0, .inr (2, [.int 0, .int 0, .null]))]) [0] rfl
  have hDc := hD.sub (ws' := [(h0, .inr (2, [.int 0, .int 0, .null]))]) [0] (by decide) rfl
  have hKc := hK.sub (tys' := []) [] rfl
  have hFc := va_free (wc := [(h0, .inr (2, [.int 0, .int 0, .null]))]) hD hS hA [0] rfl
  have hk1 : 0 ≤ 0 := by decide
  have hk2 : 0 ≤ 0 := Nat.le_of_ble_eq_true rfl
  refine va_callv (va_runI (As := [.int x1, .int x2, .ref t3]) (rest := []) ⟨hx, hb, hml, hown, hts⟩ (c_X8_init_c2 l D h0 x1 x2 t3 s.heap.size) (cwI 3 hts gX2_init_X8_init rfl rfl rfl lk0 lk2 lk1 rfl (by decide +kernel) ⟨(Nat.le_of_ble_eq_true rfl), (Nat.le_of_ble_eq_true rfl)⟩) ⟨i_blind, fun U hU hW => ⟨rfl, by rw [hU], by rw [hU]; exact hPc, va_K.moved hW.alike hKc, hDc.weaken (fun _ _ _ _ => trivial), hN.warm hW, hAO.1.moved hW.alike, hAO.2.moved hW.alike⟩⟩ rfl rfl hl.1 rfl (lv_room (Nat.le_of_ble_eq_true rfl)) dX2_init_4 ⟨hk1, hk2⟩) hS (fun q _ h => hFc q h) hFc (fun u3 t H1 locs ht hvm hw hB hz1 hk1 hS => ?_)
  obtain ⟨hP1, hK1, hD1⟩ := hB
  rw [ht] at hP1
  have hK1 := va_K.moved hvm.symm hK1
  obtain ⟨hP, hD⟩ := va_join (wr := []) (w1 := [(h0, .inr (2, [.int x1, .int x2, .ref t3]))]) hP hD [0] [] rfl rfl (by decide) (by decide) hk1 hFc hP1 hD1
  have hK := (hK.sub (tys' := []) [] rfl).app hK1
  generalize H1 = H at hP hS ⊢
  have hP := hP.sub (ws' := [(h0, .inr (2, [.int x1, .int x2, .ref t3]))]) [0] rfl
  have hD := hD.sub (ws' := [(h0, .inr (2, [.int x1, .int x2, .ref t3]))]) [0] (by decide) rfl
  have hK : va_K D vwCl [] s := hK
  have hK := hK.sub (tys' := []) [] rfl
  have hP : va_P D vwCl [(h0, .inr (2, [.int x1, .int x2, .ref t3]))] H := hP
  have hD : va_D A [(h0, .inr (2, [.int x1, .int x2, .ref t3]))] := hD
  refine W.widen (k := 0) (n := 0) (Nat.le_refl _) (Nat.le_of_ble_eq_true rfl) ?_
  exact W.vret hx hb hr (fun t ht hW => ⟨⟨(fun j => ([] : List Nat).getD j 0, fun j => ([] : List ClassId).getD j 0), rfl, trivial, by rw [ht]; exact hP, va_K.moved hW.alike hK, hD⟩, hS.F ht⟩) hS.2.2 dX2_init_7 hlocks
set_option maxHeartbeats 4000000 in
set_option maxRecDepth 100000 in
theorem c_X5_init (l : Launch) (D : va_G) (h0 : Nat) (x1 : Int32) (x2 : Int32) (t3 : Nat) (sz : Nat) : Met l yX5_init wsX5_init { frames := 3, cells := 0, slots := 0, locals := 66 } (va_Pc [.ref h0, .int x1, .int x2, .ref t3] (fun U => U.heap.size = sz ∧ va_P D vwCl [(h0, .inr (5, [.int 0, .int 0, .null]))] U.heap ∧ va_K D vwCl [] U ∧ va_D (fun _ => True) [(h0, .inr (5, [.int 0, .int 0, .null]))] ∧ NW U ∧ va_AO "SlowPanes$Pane" U ∧ va_AO "SlowPanes$Sheet" U)) (va_Qv (fun _ : (Nat → Nat) × (Nat → ClassId) => True) (fun u t => va_P D vwCl [(h0, .inr (5, [.int x1, .int x2, .ref t3]))] t.heap ∧ va_K D vwCl [] t ∧ va_D (va_A [(h0, .inr (5, [.int 0, .int 0, .null]))] sz) [(h0, .inr (5, [.int x1, .int x2, .ref t3]))]) (va_A [(h0, .inr (5, [.int 0, .int 0, .null]))] sz)) 0 0 (va_A [(h0, .inr (5, [.int 0, .int 0, .null]))] sz) := by
  refine Met.ofW (cc := cX5_init) (maxL := 4) (ret := none) (by decide) rfl ?_
  intro p e s m args below meth c s₁ B hml hv
  obtain ⟨rfl, hsz, hP, hK, hD0, hN, hAO⟩ := hv
  have hx := B.exec
  have hb := B.bytes
  have hr := B.returns
  have hts := atoms_spec (ws := wsX5_init) B.pre
  have hown : s.vm.findClass RX5 = some m.cls := findClass_of_methodNamed B.named
  have hlocks := B.notSynchronized
  have hin : meth.name = "<init>" := (name_of_methodNamed B.named B.method).1
  subst hsz
  have hD := hD0.self (sz := s.heap.size)
  generalize hAe : va_A [(h0, .inr (5, [.int 0, .int 0, .null]))] s.heap.size = A at hD ⊢
  have hA : ∀ q : Nat, s.heap.size ≤ q → A q := fun q h => by rw [← hAe]; exact Or.inr h
  have hS : va_S A s.heap s.heap [] := va_S.rf
  have hP : va_P D vwCl [(h0, .inr (5, [.int 0, .int 0, .null]))] s.heap := hP
  have lk0 := hts (.initialized RX0) (by decide +kernel)
  have lk1 := hts (.instanceMethod yX0_init) (by decide +kernel)
  have lk2 := hts (.methodLink RX5 1 yX0_init) (by decide +kernel)
  have hl := lv_entry ([.ref h0, .int x1, .int x2, .ref t3]) (n := 4) (Nat.le_of_ble_eq_true rfl)
  rw [lg_entry_eq]
  generalize (lg_sl ([.ref h0, .int x1, .int x2, .ref t3]) ++ List.replicate (4 - (lg_sl ([.ref h0, .int x1, .int x2, .ref t3])).length) Slot.unset).toArray = ls at hl ⊢
  have hl : lv_has ls 4 [(0, .ref h0), (1, .int x1), (2, .int x2), (3, .ref t3)] := hl
  refine lv_aload_n hx hb dX5_init_0 rfl (lv_at hl 0 rfl) ?_
  refine lv_iload_n hx hb dX5_init_1 rfl (lv_at hl 1 rfl) ?_
  refine lv_iload_n hx hb dX5_init_2 rfl (lv_at hl 2 rfl) ?_
  refine lv_aload_n hx hb dX5_init_3 rfl (lv_at hl 3 rfl) ?_
  have hPc := hP.sub (ws' := [(h0, .inr (5, [.int 0, .int 0, .null]))]) [0] rfl
  have hDc := hD.sub (ws' := [(h0, .inr (5, [.int 0, .int 0, .null]))]) [0] (by decide) rfl
  have hKc := hK.sub (tys' := []) [] rfl
  have hFc := va_free (wc := [(h0, .inr (5, [.int 0, .int 0, .null]))]) hD hS hA [0] rfl
  have hk1 : 0 ≤ 0 := by decide
  have hk2 : 0 ≤ 0 := Nat.le_of_ble_eq_true rfl
  refine va_callv (va_runI (As := [.int x1, .int x2, .ref t3]) (rest := []) ⟨hx, hb, hml, hown, hts⟩ (c_X0_init_c5 l D h0 x1 x2 t3 s.heap.size) (cwI 3 hts gX5_init_X0_init rfl rfl rfl lk0 lk2 lk1 rfl (by decide +kernel) ⟨(Nat.le_of_ble_eq_true rfl), (Nat.le_of_ble_eq_true rfl)⟩) ⟨i_blind, fun U hU hW => ⟨rfl, by rw [hU], by rw [hU]; exact hPc, va_K.moved hW.alike hKc, hDc.weaken (fun _ _ _ _ => trivial), hN.warm hW, hAO.1.moved hW.alike, hAO.2.moved hW.alike⟩⟩ rfl rfl hl.1 rfl (lv_room (Nat.le_of_ble_eq_true rfl)) dX5_init_4 ⟨hk1, hk2⟩) hS (fun q _ h => hFc q h) hFc (fun u3 t H1 locs ht hvm hw hB hz1 hk1 hS => ?_)
  obtain ⟨hP1, hK1, hD1⟩ := hB
  rw [ht] at hP1
  have hK1 := va_K.moved hvm.symm hK1
  obtain ⟨hP, hD⟩ := va_join (wr := []) (w1 := [(h0, .inr (5, [.int x1, .int x2, .ref t3]))]) hP hD [0] [] rfl rfl (by decide) (by decide) hk1 hFc hP1 hD1
  have hK := (hK.sub (tys' := []) [] rfl).app hK1
  generalize H1 = H at hP hS ⊢
  have hP := hP.sub (ws' := [(h0, .inr (5, [.int x1, .int x2, .ref t3]))]) [0] rfl
  have hD := hD.sub (ws' := [(h0, .inr (5, [.int x1, .int x2, .ref t3]))]) [0] (by decide) rfl
  have hK : va_K D vwCl [] s := hK
  have hK := hK.sub (tys' := []) [] rfl
  have hP : va_P D vwCl [(h0, .inr (5, [.int x1, .int x2, .ref t3]))] H := hP
  have hD : va_D A [(h0, .inr (5, [.int x1, .int x2, .ref t3]))] := hD
  refine W.widen (k := 0) (n := 0) (Nat.le_refl _) (Nat.le_of_ble_eq_true rfl) ?_
  exact W.vret hx hb hr (fun t ht hW => ⟨⟨(fun j => ([] : List Nat).getD j 0, fun j => ([] : List ClassId).getD j 0), rfl, trivial, by rw [ht]; exact hP, va_K.moved hW.alike hK, hD⟩, hS.F ht⟩) hS.2.2 dX5_init_7 hlocks
set_option maxHeartbeats 4000000 in
set_option maxRecDepth 100000 in
theorem c_X1_init (l : Launch) (D : va_G) (h0 : Nat) (x1 : Int32) (x2 : Int32) (t3 : Nat) (sz : Nat) : Met l yX1_init wsX1_init { frames := 3, cells := 0, slots := 0, locals := 66 } (va_Pc [.ref h0, .int x1, .int x2, .ref t3] (fun U => U.heap.size = sz ∧ va_P D vwCl [(h0, .inr (1, [.int 0, .int 0, .null]))] U.heap ∧ va_K D vwCl [] U ∧ va_D (fun _ => True) [(h0, .inr (1, [.int 0, .int 0, .null]))] ∧ NW U ∧ va_AO "SlowPanes$Pane" U ∧ va_AO "SlowPanes$Sheet" U)) (va_Qv (fun _ : (Nat → Nat) × (Nat → ClassId) => True) (fun u t => va_P D vwCl [(h0, .inr (1, [.int x1, .int x2, .ref t3]))] t.heap ∧ va_K D vwCl [] t ∧ va_D (va_A [(h0, .inr (1, [.int 0, .int 0, .null]))] sz) [(h0, .inr (1, [.int x1, .int x2, .ref t3]))]) (va_A [(h0, .inr (1, [.int 0, .int 0, .null]))] sz)) 0 0 (va_A [(h0, .inr (1, [.int 0, .int 0, .null]))] sz) := by
  refine Met.ofW (cc := cX1_init) (maxL := 4) (ret := none) (by decide) rfl ?_
  intro p e s m args below meth c s₁ B hml hv
  obtain ⟨rfl, hsz, hP, hK, hD0, hN, hAO⟩ := hv
  have hx := B.exec
  have hb := B.bytes
  have hr := B.returns
  have hts := atoms_spec (ws := wsX1_init) B.pre
  have hown : s.vm.findClass RX1 = some m.cls := findClass_of_methodNamed B.named
  have hlocks := B.notSynchronized
  have hin : meth.name = "<init>" := (name_of_methodNamed B.named B.method).1
  subst hsz
  have hD := hD0.self (sz := s.heap.size)
  generalize hAe : va_A [(h0, .inr (1, [.int 0, .int 0, .null]))] s.heap.size = A at hD ⊢
  have hA : ∀ q : Nat, s.heap.size ≤ q → A q := fun q h => by rw [← hAe]; exact Or.inr h
  have hS : va_S A s.heap s.heap [] := va_S.rf
  have hP : va_P D vwCl [(h0, .inr (1, [.int 0, .int 0, .null]))] s.heap := hP
  have lk0 := hts (.initialized RX7) (by decide +kernel)
  have lk1 := hts (.instanceMethod yX7_init) (by decide +kernel)
  have lk2 := hts (.methodLink RX1 1 yX7_init) (by decide +kernel)
  have hl := lv_entry ([.ref h0, .int x1, .int x2, .ref t3]) (n := 4) (Nat.le_of_ble_eq_true rfl)
  rw [lg_entry_eq]
  generalize (lg_sl ([.ref h0, .int x1, .int x2, .ref t3]) ++ List.replicate (4 - (lg_sl ([.ref h0, .int x1, .int x2, .ref t3])).length) Slot.unset).toArray = ls at hl ⊢
  have hl : lv_has ls 4 [(0, .ref h0), (1, .int x1), (2, .int x2), (3, .ref t3)] := hl
  refine lv_aload_n hx hb dX1_init_0 rfl (lv_at hl 0 rfl) ?_
  refine lv_iload_n hx hb dX1_init_1 rfl (lv_at hl 1 rfl) ?_
  refine lv_iload_n hx hb dX1_init_2 rfl (lv_at hl 2 rfl) ?_
  refine lv_aload_n hx hb dX1_init_3 rfl (lv_at hl 3 rfl) ?_
  have hPc := hP.sub (ws' := [(h0, .inr (1, [.int 0, .int 0, .null]))]) [0] rfl
  have hDc := hD.sub (ws' := [(h0, .inr (1, [.int 0, .int 0, .null]))]) [0] (by decide) rfl
  have hKc := hK.sub (tys' := []) [] rfl
  have hFc := va_free (wc := [(h0, .inr (1, [.int 0, .int 0, .null]))]) hD hS hA [0] rfl
  have hk1 : 0 ≤ 0 := by decide
  have hk2 : 0 ≤ 0 := Nat.le_of_ble_eq_true rfl
  refine va_callv (va_runI (As := [.int x1, .int x2, .ref t3]) (rest := []) ⟨hx, hb, hml, hown, hts⟩ (c_X7_init_c1 l D h0 x1 x2 t3 s.heap.size) (cwI 3 hts gX1_init_X7_init rfl rfl rfl lk0 lk2 lk1 rfl (by decide +kernel) ⟨(Nat.le_of_ble_eq_true rfl), (Nat.le_of_ble_eq_true rfl)⟩) ⟨i_blind, fun U hU hW => ⟨rfl, by rw [hU], by rw [hU]; exact hPc, va_K.moved hW.alike hKc, hDc.weaken (fun _ _ _ _ => trivial), hN.warm hW, hAO.1.moved hW.alike, hAO.2.moved hW.alike⟩⟩ rfl rfl hl.1 rfl (lv_room (Nat.le_of_ble_eq_true rfl)) dX1_init_4 ⟨hk1, hk2⟩) hS (fun q _ h => hFc q h) hFc (fun u3 t H1 locs ht hvm hw hB hz1 hk1 hS => ?_)
  obtain ⟨hP1, hK1, hD1⟩ := hB
  rw [ht] at hP1
  have hK1 := va_K.moved hvm.symm hK1
  obtain ⟨hP, hD⟩ := va_join (wr := []) (w1 := [(h0, .inr (1, [.int x1, .int x2, .ref t3]))]) hP hD [0] [] rfl rfl (by decide) (by decide) hk1 hFc hP1 hD1
  have hK := (hK.sub (tys' := []) [] rfl).app hK1
  generalize H1 = H at hP hS ⊢
  have hP := hP.sub (ws' := [(h0, .inr (1, [.int x1, .int x2, .ref t3]))]) [0] rfl
  have hD := hD.sub (ws' := [(h0, .inr (1, [.int x1, .int x2, .ref t3]))]) [0] (by decide) rfl
  have hK : va_K D vwCl [] s := hK
  have hK := hK.sub (tys' := []) [] rfl
  have hP : va_P D vwCl [(h0, .inr (1, [.int x1, .int x2, .ref t3]))] H := hP
  have hD : va_D A [(h0, .inr (1, [.int x1, .int x2, .ref t3]))] := hD
  refine W.widen (k := 0) (n := 0) (Nat.le_refl _) (Nat.le_of_ble_eq_true rfl) ?_
  exact W.vret hx hb hr (fun t ht hW => ⟨⟨(fun j => ([] : List Nat).getD j 0, fun j => ([] : List ClassId).getD j 0), rfl, trivial, by rw [ht]; exact hP, va_K.moved hW.alike hK, hD⟩, hS.F ht⟩) hS.2.2 dX1_init_7 hlocks
set_option maxHeartbeats 4000000 in
set_option maxRecDepth 100000 in
theorem c_X3_init (l : Launch) (D : va_G) (h0 : Nat) (sz : Nat) : Met l yX3_init wsX3_init { frames := 1, cells := 1, slots := 16, locals := 20 } (va_Pc [.ref h0] (fun U => U.heap.size = sz ∧ va_P D vwCl [(h0, .inr (3, [.null, .int 0, .int 0, .int 0, .int 0]))] U.heap ∧ va_K D vwCl [] U ∧ va_D (fun _ => True) [(h0, .inr (3, [.null, .int 0, .int 0, .int 0, .int 0]))] ∧ NW U ∧ va_AO "SlowPanes$Pane" U ∧ va_AO "SlowPanes$Sheet" U)) (va_Qv (fun _ : (Nat → Nat) × (Nat → ClassId) => True) (fun u t => va_P D vwCl [(h0, .inr (3, [.ref (u.1 0), .int (0 : Int32), .int (0 : Int32), .int (1 : Int32), .int (4 : Int32)])), ((u.1 0), .inl ((u.2 0), 16, .inl (fun _ => 0)))] t.heap ∧ va_K D vwCl [((u.2 0), .int)] t ∧ va_D (va_A [(h0, .inr (3, [.null, .int 0, .int 0, .int 0, .int 0]))] sz) [(h0, .inr (3, [.ref (u.1 0), .int (0 : Int32), .int (0 : Int32), .int (1 : Int32), .int (4 : Int32)])), ((u.1 0), .inl ((u.2 0), 16, .inl (fun _ => 0)))]) (va_A [(h0, .inr (3, [.null, .int 0, .int 0, .int 0, .int 0]))] sz)) 1 16 (va_A [(h0, .inr (3, [.null, .int 0, .int 0, .int 0, .int 0]))] sz) := by
  refine Met.ofW (cc := cX3_init) (maxL := 1) (ret := none) (by decide) rfl ?_
  intro p e s m args below meth c s₁ B hml hv
  obtain ⟨rfl, hsz, hP, hK, hD0, hN, hAO⟩ := hv
  have hx := B.exec
  have hb := B.bytes
  have hr := B.returns
  have hts := atoms_spec (ws := wsX3_init) B.pre
  have hown : s.vm.findClass RX3 = some m.cls := findClass_of_methodNamed B.named
  have hlocks := B.notSynchronized
  have hin : meth.name = "<init>" := (name_of_methodNamed B.named B.method).1
  subst hsz
  have hD := hD0.self (sz := s.heap.size)
  generalize hAe : va_A [(h0, .inr (3, [.null, .int 0, .int 0, .int 0, .int 0]))] s.heap.size = A at hD ⊢
  have hA : ∀ q : Nat, s.heap.size ≤ q → A q := fun q h => by rw [← hAe]; exact Or.inr h
  have hS : va_S A s.heap s.heap [] := va_S.rf
  have hP : va_P D vwCl [(h0, .inr (3, [.null, .int 0, .int 0, .int 0, .int 0]))] s.heap := hP
  have hiX3 : ∀ w ∈ u_ws RX3 TX3 5, w ∈ wsX3_init := by decide +kernel
  have lk0 := hts (.methodLink RX3 3 objectInit) (by decide +kernel)
  have lk1 := hts (.instanceMethod objectInit) (by decide +kernel)
  have lk2 := hts (.code objectInit ⟨#[0xb1]⟩ 1 none) (by decide +kernel)
  have lk3 := hts (.arrayClass .int) (by decide +kernel)
  have lk4 := hts (.fieldLink RX3 9 "SlowPanes$Pane" "ring" "[I") (by decide +kernel)
  have lk5 := hts (.fieldLink RX3 15 "SlowPanes$Pane" "face" "I") (by decide +kernel)
  have lk6 := hts (.fieldLink RX3 19 "SlowPanes$Pane" "kind" "I") (by decide +kernel)
  have lk7 := hts (.fieldLink RX3 22 "SlowPanes$Pane" "count" "I") (by decide +kernel)
  have lk8 := hts (.fieldLink RX3 25 "SlowPanes$Pane" "place" "I") (by decide +kernel)
  have hl := lv_entry ([.ref h0]) (n := 1) (Nat.le_of_ble_eq_true rfl)
  rw [lg_entry_eq]
  generalize (lg_sl ([.ref h0]) ++ List.replicate (1 - (lg_sl ([.ref h0])).length) Slot.unset).toArray = ls at hl ⊢
  have hl : lv_has ls 1 [(0, .ref h0)] := hl
  refine lv_aload_n hx hb dX3_init_0 rfl (lv_at hl 0 rfl) ?_
  refine W.objInit hx hb hown lk0 lk1 lk2 rfl (by rw [hml]; exact hl.1) rfl dX3_init_1 (Nat.le_of_ble_eq_true rfl) (Nat.le_of_ble_eq_true rfl) ?_
  refine W.eq (g2 := F0 m 4 ls []) rfl ?_
  refine lv_aload_n hx hb dX3_init_4 rfl (lv_at hl 0 rfl) ?_
  refine lv_bipush (v := 16) hx hb dX3_init_5 (by decide +kernel) ?_
  have hk3 : 1 ≤ 1 := by decide
  have hk4 : 16 ≤ 16 := Nat.le_of_ble_eq_true rfl
  refine va_newa (D := D) (atype := .int) (ty := .int) (N' := 16) (a0 := (16, .inl (fun _ => 0))) hx hb lk3 rfl hK hP hD hS hA (fun _ => rfl) (by decide) (by decide) (by decide) hk3 hk4 dX3_init_7 (fun q1 cA2 H hK hP hD hS => ?_)
  have hK : va_K D vwCl [(cA2, .int)] s := hK
  have hP : va_P D vwCl [(h0, .inr (3, [.null, .int 0, .int 0, .int 0, .int 0])), (q1, .inl (cA2, 16, .inl (fun _ => 0)))] H := hP
  have hD : va_D A [(h0, .inr (3, [.null, .int 0, .int 0, .int 0, .int 0])), (q1, .inl (cA2, 16, .inl (fun _ => 0)))] := hD
  refine W.widen (k := 1) (n := 16) (Nat.le_refl _) (Nat.le_of_ble_eq_true rfl) ?_
  refine va_putF (D := D) (ci := 3) (v := .ref q1) (ty := .array .int) (C := RX3) (T := TX3) (N := 5) hx hb hts hiX3 tyX3 tyX3_ok nmX3 hown hK hP hD hS 0 rfl rfl 0 (by decide) lk4 (fun _ h => h) rfl hin rfl (by decide +kernel) rfl rfl (Nat.le_of_ble_eq_true rfl) dX3_init_9 (fun H locs hP hD hS => ?_)
  have hP : va_P D vwCl [(h0, .inr (3, [.ref q1, .int 0, .int 0, .int 0, .int 0])), (q1, .inl (cA2, 16, .inl (fun _ => 0)))] H := hP
  have hD : va_D A [(h0, .inr (3, [.ref q1, .int 0, .int 0, .int 0, .int 0])), (q1, .inl (cA2, 16, .inl (fun _ => 0)))] := hD
  refine lv_aload_n hx hb dX3_init_12 rfl (lv_at hl 0 rfl) ?_
  refine lv_iconst (v := 0) hx hb dX3_init_13 (by decide +kernel) ?_
  refine va_put (D := D) (ci := 3) (v := .int (0 : Int32)) (ty := .int) (C := RX3) (T := TX3) (N := 5) hx hb hts hiX3 tyX3 tyX3_ok nmX3 hown hK hP hD hS 0 rfl rfl 1 (by decide) lk5 (fun _ h => h) rfl (by decide +kernel) rfl rfl (Nat.le_of_ble_eq_true rfl) dX3_init_14 (fun H locs hP hD hS => ?_)
  have hP : va_P D vwCl [(h0, .inr (3, [.ref q1, .int (0 : Int32), .int 0, .int 0, .int 0])), (q1, .inl (cA2, 16, .inl (fun _ => 0)))] H := hP
  have hD : va_D A [(h0, .inr (3, [.ref q1, .int (0 : Int32), .int 0, .int 0, .int 0])), (q1, .inl (cA2, 16, .inl (fun _ => 0)))] := hD
  refine lv_aload_n hx hb dX3_init_17 rfl (lv_at hl 0 rfl) ?_
  refine lv_iconst (v := 0) hx hb dX3_init_18 (by decide +kernel) ?_
  refine va_put (D := D) (ci := 3) (v := .int (0 : Int32)) (ty := .int) (C := RX3) (T := TX3) (N := 5) hx hb hts hiX3 tyX3 tyX3_ok nmX3 hown hK hP hD hS 0 rfl rfl 2 (by decide) lk6 (fun _ h => h) rfl (by decide +kernel) rfl rfl (Nat.le_of_ble_eq_true rfl) dX3_init_19 (fun H locs hP hD hS => ?_)
  have hP : va_P D vwCl [(h0, .inr (3, [.ref q1, .int (0 : Int32), .int (0 : Int32), .int 0, .int 0])), (q1, .inl (cA2, 16, .inl (fun _ => 0)))] H := hP
  have hD : va_D A [(h0, .inr (3, [.ref q1, .int (0 : Int32), .int (0 : Int32), .int 0, .int 0])), (q1, .inl (cA2, 16, .inl (fun _ => 0)))] := hD
  refine lv_aload_n hx hb dX3_init_22 rfl (lv_at hl 0 rfl) ?_
  refine lv_iconst (v := 1) hx hb dX3_init_23 (by decide +kernel) ?_
  refine va_put (D := D) (ci := 3) (v := .int (1 : Int32)) (ty := .int) (C := RX3) (T := TX3) (N := 5) hx hb hts hiX3 tyX3 tyX3_ok nmX3 hown hK hP hD hS 0 rfl rfl 3 (by decide) lk7 (fun _ h => h) rfl (by decide +kernel) rfl rfl (Nat.le_of_ble_eq_true rfl) dX3_init_24 (fun H locs hP hD hS => ?_)
  have hP : va_P D vwCl [(h0, .inr (3, [.ref q1, .int (0 : Int32), .int (0 : Int32), .int (1 : Int32), .int 0])), (q1, .inl (cA2, 16, .inl (fun _ => 0)))] H := hP
  have hD : va_D A [(h0, .inr (3, [.ref q1, .int (0 : Int32), .int (0 : Int32), .int (1 : Int32), .int 0])), (q1, .inl (cA2, 16, .inl (fun _ => 0)))] := hD
  refine lv_aload_n hx hb dX3_init_27 rfl (lv_at hl 0 rfl) ?_
  refine lv_iconst (v := 4) hx hb dX3_init_28 (by decide +kernel) ?_
  refine va_put (D := D) (ci := 3) (v := .int (4 : Int32)) (ty := .int) (C := RX3) (T := TX3) (N := 5) hx hb hts hiX3 tyX3 tyX3_ok nmX3 hown hK hP hD hS 0 rfl rfl 4 (by decide) lk8 (fun _ h => h) rfl (by decide +kernel) rfl rfl (Nat.le_of_ble_eq_true rfl) dX3_init_29 (fun H locs hP hD hS => ?_)
  have hP : va_P D vwCl [(h0, .inr (3, [.ref q1, .int (0 : Int32), .int (0 : Int32), .int (1 : Int32), .int (4 : Int32)])), (q1, .inl (cA2, 16, .inl (fun _ => 0)))] H := hP
  have hD : va_D A [(h0, .inr (3, [.ref q1, .int (0 : Int32), .int (0 : Int32), .int (1 : Int32), .int (4 : Int32)])), (q1, .inl (cA2, 16, .inl (fun _ => 0)))] := hD
  exact W.vret hx hb hr (fun t ht hW => ⟨⟨(fun j => ([q1] : List Nat).getD j 0, fun j => ([cA2] : List ClassId).getD j 0), rfl, trivial, by rw [ht]; exact hP, va_K.moved hW.alike hK, hD⟩, hS.F ht⟩) hS.2.2 dX3_init_32 hlocks
set_option maxHeartbeats 4000000 in
set_option maxRecDepth 100000 in
theorem c_X4_init (l : Launch) (D : va_G) (h0 : Nat) (sz : Nat) : Met l yX4_init wsX4_init { frames := 1, cells := 1, slots := 200, locals := 20 } (va_Pc [.ref h0] (fun U => U.heap.size = sz ∧ va_P D vwCl [(h0, .inr (4, [.null, .int 0, .int 0, .int 0, .int 0]))] U.heap ∧ va_K D vwCl [] U ∧ va_D (fun _ => True) [(h0, .inr (4, [.null, .int 0, .int 0, .int 0, .int 0]))] ∧ NW U ∧ va_AO "SlowPanes$Pane" U ∧ va_AO "SlowPanes$Sheet" U)) (va_Qv (fun _ : (Nat → Nat) × (Nat → ClassId) => True) (fun u t => va_P D vwCl [(h0, .inr (4, [.ref (u.1 0), .int (0 : Int32), .int (0 : Int32), .int (0 : Int32), .int (-1 : Int32)])), ((u.1 0), .inl ((u.2 0), 200, .inl (fun _ => 0)))] t.heap ∧ va_K D vwCl [((u.2 0), .int)] t ∧ va_D (va_A [(h0, .inr (4, [.null, .int 0, .int 0, .int 0, .int 0]))] sz) [(h0, .inr (4, [.ref (u.1 0), .int (0 : Int32), .int (0 : Int32), .int (0 : Int32), .int (-1 : Int32)])), ((u.1 0), .inl ((u.2 0), 200, .inl (fun _ => 0)))]) (va_A [(h0, .inr (4, [.null, .int 0, .int 0, .int 0, .int 0]))] sz)) 1 200 (va_A [(h0, .inr (4, [.null, .int 0, .int 0, .int 0, .int 0]))] sz) := by
  refine Met.ofW (cc := cX4_init) (maxL := 1) (ret := none) (by decide) rfl ?_
  intro p e s m args below meth c s₁ B hml hv
  obtain ⟨rfl, hsz, hP, hK, hD0, hN, hAO⟩ := hv
  have hx := B.exec
  have hb := B.bytes
  have hr := B.returns
  have hts := atoms_spec (ws := wsX4_init) B.pre
  have hown : s.vm.findClass RX4 = some m.cls := findClass_of_methodNamed B.named
  have hlocks := B.notSynchronized
  have hin : meth.name = "<init>" := (name_of_methodNamed B.named B.method).1
  subst hsz
  have hD := hD0.self (sz := s.heap.size)
  generalize hAe : va_A [(h0, .inr (4, [.null, .int 0, .int 0, .int 0, .int 0]))] s.heap.size = A at hD ⊢
  have hA : ∀ q : Nat, s.heap.size ≤ q → A q := fun q h => by rw [← hAe]; exact Or.inr h
  have hS : va_S A s.heap s.heap [] := va_S.rf
  have hP : va_P D vwCl [(h0, .inr (4, [.null, .int 0, .int 0, .int 0, .int 0]))] s.heap := hP
  have hiX4 : ∀ w ∈ u_ws RX4 TX4 5, w ∈ wsX4_init := by decide +kernel
  have lk0 := hts (.methodLink RX4 3 objectInit) (by decide +kernel)
  have lk1 := hts (.instanceMethod objectInit) (by decide +kernel)
  have lk2 := hts (.code objectInit ⟨#[0xb1]⟩ 1 none) (by decide +kernel)
  have lk3 := hts (.arrayClass .int) (by decide +kernel)
  have lk4 := hts (.fieldLink RX4 9 "SlowPanes$Quarry" "bytes" "[I") (by decide +kernel)
  have lk5 := hts (.fieldLink RX4 15 "SlowPanes$Quarry" "length" "I") (by decide +kernel)
  have lk6 := hts (.fieldLink RX4 19 "SlowPanes$Quarry" "at" "I") (by decide +kernel)
  have lk7 := hts (.fieldLink RX4 22 "SlowPanes$Quarry" "start" "I") (by decide +kernel)
  have lk8 := hts (.fieldLink RX4 25 "SlowPanes$Quarry" "fault" "I") (by decide +kernel)
  have hl := lv_entry ([.ref h0]) (n := 1) (Nat.le_of_ble_eq_true rfl)
  rw [lg_entry_eq]
  generalize (lg_sl ([.ref h0]) ++ List.replicate (1 - (lg_sl ([.ref h0])).length) Slot.unset).toArray = ls at hl ⊢
  have hl : lv_has ls 1 [(0, .ref h0)] := hl
  refine lv_aload_n hx hb dX4_init_0 rfl (lv_at hl 0 rfl) ?_
  refine W.objInit hx hb hown lk0 lk1 lk2 rfl (by rw [hml]; exact hl.1) rfl dX4_init_1 (Nat.le_of_ble_eq_true rfl) (Nat.le_of_ble_eq_true rfl) ?_
  refine W.eq (g2 := F0 m 4 ls []) rfl ?_
  refine lv_aload_n hx hb dX4_init_4 rfl (lv_at hl 0 rfl) ?_
  refine lv_sipush (v := 200) hx hb dX4_init_5 (by decide +kernel) ?_
  have hk3 : 1 ≤ 1 := by decide
  have hk4 : 200 ≤ 200 := Nat.le_of_ble_eq_true rfl
  refine va_newa (D := D) (atype := .int) (ty := .int) (N' := 200) (a0 := (200, .inl (fun _ => 0))) hx hb lk3 rfl hK hP hD hS hA (fun _ => rfl) (by decide) (by decide) (by decide) hk3 hk4 dX4_init_8 (fun q1 cA2 H hK hP hD hS => ?_)
  have hK : va_K D vwCl [(cA2, .int)] s := hK
  have hP : va_P D vwCl [(h0, .inr (4, [.null, .int 0, .int 0, .int 0, .int 0])), (q1, .inl (cA2, 200, .inl (fun _ => 0)))] H := hP
  have hD : va_D A [(h0, .inr (4, [.null, .int 0, .int 0, .int 0, .int 0])), (q1, .inl (cA2, 200, .inl (fun _ => 0)))] := hD
  refine W.widen (k := 1) (n := 200) (Nat.le_refl _) (Nat.le_of_ble_eq_true rfl) ?_
  refine va_putF (D := D) (ci := 4) (v := .ref q1) (ty := .array .int) (C := RX4) (T := TX4) (N := 5) hx hb hts hiX4 tyX4 tyX4_ok nmX4 hown hK hP hD hS 0 rfl rfl 0 (by decide) lk4 (fun _ h => h) rfl hin rfl (by decide +kernel) rfl rfl (Nat.le_of_ble_eq_true rfl) dX4_init_10 (fun H locs hP hD hS => ?_)
  have hP : va_P D vwCl [(h0, .inr (4, [.ref q1, .int 0, .int 0, .int 0, .int 0])), (q1, .inl (cA2, 200, .inl (fun _ => 0)))] H := hP
  have hD : va_D A [(h0, .inr (4, [.ref q1, .int 0, .int 0, .int 0, .int 0])), (q1, .inl (cA2, 200, .inl (fun _ => 0)))] := hD
  refine lv_aload_n hx hb dX4_init_13 rfl (lv_at hl 0 rfl) ?_
  refine lv_iconst (v := 0) hx hb dX4_init_14 (by decide +kernel) ?_
  refine va_put (D := D) (ci := 4) (v := .int (0 : Int32)) (ty := .int) (C := RX4) (T := TX4) (N := 5) hx hb hts hiX4 tyX4 tyX4_ok nmX4 hown hK hP hD hS 0 rfl rfl 1 (by decide) lk5 (fun _ h => h) rfl (by decide +kernel) rfl rfl (Nat.le_of_ble_eq_true rfl) dX4_init_15 (fun H locs hP hD hS => ?_)
  have hP : va_P D vwCl [(h0, .inr (4, [.ref q1, .int (0 : Int32), .int 0, .int 0, .int 0])), (q1, .inl (cA2, 200, .inl (fun _ => 0)))] H := hP
  have hD : va_D A [(h0, .inr (4, [.ref q1, .int (0 : Int32), .int 0, .int 0, .int 0])), (q1, .inl (cA2, 200, .inl (fun _ => 0)))] := hD
  refine lv_aload_n hx hb dX4_init_18 rfl (lv_at hl 0 rfl) ?_
  refine lv_iconst (v := 0) hx hb dX4_init_19 (by decide +kernel) ?_
  refine va_put (D := D) (ci := 4) (v := .int (0 : Int32)) (ty := .int) (C := RX4) (T := TX4) (N := 5) hx hb hts hiX4 tyX4 tyX4_ok nmX4 hown hK hP hD hS 0 rfl rfl 2 (by decide) lk6 (fun _ h => h) rfl (by decide +kernel) rfl rfl (Nat.le_of_ble_eq_true rfl) dX4_init_20 (fun H locs hP hD hS => ?_)
  have hP : va_P D vwCl [(h0, .inr (4, [.ref q1, .int (0 : Int32), .int (0 : Int32), .int 0, .int 0])), (q1, .inl (cA2, 200, .inl (fun _ => 0)))] H := hP
  have hD : va_D A [(h0, .inr (4, [.ref q1, .int (0 : Int32), .int (0 : Int32), .int 0, .int 0])), (q1, .inl (cA2, 200, .inl (fun _ => 0)))] := hD
  refine lv_aload_n hx hb dX4_init_23 rfl (lv_at hl 0 rfl) ?_
  refine lv_iconst (v := 0) hx hb dX4_init_24 (by decide +kernel) ?_
  refine va_put (D := D) (ci := 4) (v := .int (0 : Int32)) (ty := .int) (C := RX4) (T := TX4) (N := 5) hx hb hts hiX4 tyX4 tyX4_ok nmX4 hown hK hP hD hS 0 rfl rfl 3 (by decide) lk7 (fun _ h => h) rfl (by decide +kernel) rfl rfl (Nat.le_of_ble_eq_true rfl) dX4_init_25 (fun H locs hP hD hS => ?_)
  have hP : va_P D vwCl [(h0, .inr (4, [.ref q1, .int (0 : Int32), .int (0 : Int32), .int (0 : Int32), .int 0])), (q1, .inl (cA2, 200, .inl (fun _ => 0)))] H := hP
  have hD : va_D A [(h0, .inr (4, [.ref q1, .int (0 : Int32), .int (0 : Int32), .int (0 : Int32), .int 0])), (q1, .inl (cA2, 200, .inl (fun _ => 0)))] := hD
  refine lv_aload_n hx hb dX4_init_28 rfl (lv_at hl 0 rfl) ?_
  refine lv_iconst (v := -1) hx hb dX4_init_29 (by decide +kernel) ?_
  refine va_put (D := D) (ci := 4) (v := .int (-1 : Int32)) (ty := .int) (C := RX4) (T := TX4) (N := 5) hx hb hts hiX4 tyX4 tyX4_ok nmX4 hown hK hP hD hS 0 rfl rfl 4 (by decide) lk8 (fun _ h => h) rfl (by decide +kernel) rfl rfl (Nat.le_of_ble_eq_true rfl) dX4_init_30 (fun H locs hP hD hS => ?_)
  have hP : va_P D vwCl [(h0, .inr (4, [.ref q1, .int (0 : Int32), .int (0 : Int32), .int (0 : Int32), .int (-1 : Int32)])), (q1, .inl (cA2, 200, .inl (fun _ => 0)))] H := hP
  have hD : va_D A [(h0, .inr (4, [.ref q1, .int (0 : Int32), .int (0 : Int32), .int (0 : Int32), .int (-1 : Int32)])), (q1, .inl (cA2, 200, .inl (fun _ => 0)))] := hD
  exact W.vret hx hb hr (fun t ht hW => ⟨⟨(fun j => ([q1] : List Nat).getD j 0, fun j => ([cA2] : List ClassId).getD j 0), rfl, trivial, by rw [ht]; exact hP, va_K.moved hW.alike hK, hD⟩, hS.F ht⟩) hS.2.2 dX4_init_33 hlocks
set_option maxHeartbeats 4000000 in
set_option maxRecDepth 100000 in
theorem c_X9_init (l : Launch) (D : va_G) (h0 : Nat) (sz : Nat) : Met l yX9_init wsX9_init { frames := 1, cells := 1, slots := 30, locals := 20 } (va_Pc [.ref h0] (fun U => U.heap.size = sz ∧ va_P D vwCl [(h0, .inr (9, [.null, .int 0, .int 0]))] U.heap ∧ va_K D vwCl [] U ∧ va_D (fun _ => True) [(h0, .inr (9, [.null, .int 0, .int 0]))] ∧ NW U ∧ va_AO "SlowPanes$Pane" U ∧ va_AO "SlowPanes$Sheet" U)) (va_Qv (fun _ : (Nat → Nat) × (Nat → ClassId) => True) (fun u t => va_P D vwCl [(h0, .inr (9, [.ref (u.1 0), .int (0 : Int32), .int (0 : Int32)])), ((u.1 0), .inl ((u.2 0), 30, .inl (fun _ => 0)))] t.heap ∧ va_K D vwCl [((u.2 0), .int)] t ∧ va_D (va_A [(h0, .inr (9, [.null, .int 0, .int 0]))] sz) [(h0, .inr (9, [.ref (u.1 0), .int (0 : Int32), .int (0 : Int32)])), ((u.1 0), .inl ((u.2 0), 30, .inl (fun _ => 0)))]) (va_A [(h0, .inr (9, [.null, .int 0, .int 0]))] sz)) 1 30 (va_A [(h0, .inr (9, [.null, .int 0, .int 0]))] sz) := by
  refine Met.ofW (cc := cX9_init) (maxL := 1) (ret := none) (by decide) rfl ?_
  intro p e s m args below meth c s₁ B hml hv
  obtain ⟨rfl, hsz, hP, hK, hD0, hN, hAO⟩ := hv
  have hx := B.exec
  have hb := B.bytes
  have hr := B.returns
  have hts := atoms_spec (ws := wsX9_init) B.pre
  have hown : s.vm.findClass RX9 = some m.cls := findClass_of_methodNamed B.named
  have hlocks := B.notSynchronized
  have hin : meth.name = "<init>" := (name_of_methodNamed B.named B.method).1
  subst hsz
  have hD := hD0.self (sz := s.heap.size)
  generalize hAe : va_A [(h0, .inr (9, [.null, .int 0, .int 0]))] s.heap.size = A at hD ⊢
  have hA : ∀ q : Nat, s.heap.size ≤ q → A q := fun q h => by rw [← hAe]; exact Or.inr h
  have hS : va_S A s.heap s.heap [] := va_S.rf
  have hP : va_P D vwCl [(h0, .inr (9, [.null, .int 0, .int 0]))] s.heap := hP
  have hiX9 : ∀ w ∈ u_ws RX9 TX9 3, w ∈ wsX9_init := by decide +kernel
  have lk0 := hts (.methodLink RX9 3 objectInit) (by decide +kernel)
  have lk1 := hts (.instanceMethod objectInit) (by decide +kernel)
  have lk2 := hts (.code objectInit ⟨#[0xb1]⟩ 1 none) (by decide +kernel)
  have lk3 := hts (.arrayClass .int) (by decide +kernel)
  have lk4 := hts (.fieldLink RX9 9 "SlowPanes$Trace" "bodies" "[I") (by decide +kernel)
  have lk5 := hts (.fieldLink RX9 15 "SlowPanes$Trace" "count" "I") (by decide +kernel)
  have lk6 := hts (.fieldLink RX9 19 "SlowPanes$Trace" "isParted" "Z") (by decide +kernel)
  have hl := lv_entry ([.ref h0]) (n := 1) (Nat.le_of_ble_eq_true rfl)
  rw [lg_entry_eq]
  generalize (lg_sl ([.ref h0]) ++ List.replicate (1 - (lg_sl ([.ref h0])).length) Slot.unset).toArray = ls at hl ⊢
  have hl : lv_has ls 1 [(0, .ref h0)] := hl
  refine lv_aload_n hx hb dX9_init_0 rfl (lv_at hl 0 rfl) ?_
  refine W.objInit hx hb hown lk0 lk1 lk2 rfl (by rw [hml]; exact hl.1) rfl dX9_init_1 (Nat.le_of_ble_eq_true rfl) (Nat.le_of_ble_eq_true rfl) ?_
  refine W.eq (g2 := F0 m 4 ls []) rfl ?_
  refine lv_aload_n hx hb dX9_init_4 rfl (lv_at hl 0 rfl) ?_
  refine lv_bipush (v := 30) hx hb dX9_init_5 (by decide +kernel) ?_
  have hk3 : 1 ≤ 1 := by decide
  have hk4 : 30 ≤ 30 := Nat.le_of_ble_eq_true rfl
  refine va_newa (D := D) (atype := .int) (ty := .int) (N' := 30) (a0 := (30, .inl (fun _ => 0))) hx hb lk3 rfl hK hP hD hS hA (fun _ => rfl) (by decide) (by decide) (by decide) hk3 hk4 dX9_init_7 (fun q1 cA2 H hK hP hD hS => ?_)
  have hK : va_K D vwCl [(cA2, .int)] s := hK
  have hP : va_P D vwCl [(h0, .inr (9, [.null, .int 0, .int 0])), (q1, .inl (cA2, 30, .inl (fun _ => 0)))] H := hP
  have hD : va_D A [(h0, .inr (9, [.null, .int 0, .int 0])), (q1, .inl (cA2, 30, .inl (fun _ => 0)))] := hD
  refine W.widen (k := 1) (n := 30) (Nat.le_refl _) (Nat.le_of_ble_eq_true rfl) ?_
  refine va_putF (D := D) (ci := 9) (v := .ref q1) (ty := .array .int) (C := RX9) (T := TX9) (N := 3) hx hb hts hiX9 tyX9 tyX9_ok nmX9 hown hK hP hD hS 0 rfl rfl 0 (by decide) lk4 (fun _ h => h) rfl hin rfl (by decide +kernel) rfl rfl (Nat.le_of_ble_eq_true rfl) dX9_init_9 (fun H locs hP hD hS => ?_)
  have hP : va_P D vwCl [(h0, .inr (9, [.ref q1, .int 0, .int 0])), (q1, .inl (cA2, 30, .inl (fun _ => 0)))] H := hP
  have hD : va_D A [(h0, .inr (9, [.ref q1, .int 0, .int 0])), (q1, .inl (cA2, 30, .inl (fun _ => 0)))] := hD
  refine lv_aload_n hx hb dX9_init_12 rfl (lv_at hl 0 rfl) ?_
  refine lv_iconst (v := 0) hx hb dX9_init_13 (by decide +kernel) ?_
  refine va_put (D := D) (ci := 9) (v := .int (0 : Int32)) (ty := .int) (C := RX9) (T := TX9) (N := 3) hx hb hts hiX9 tyX9 tyX9_ok nmX9 hown hK hP hD hS 0 rfl rfl 1 (by decide) lk5 (fun _ h => h) rfl (by decide +kernel) rfl rfl (Nat.le_of_ble_eq_true rfl) dX9_init_14 (fun H locs hP hD hS => ?_)
  have hP : va_P D vwCl [(h0, .inr (9, [.ref q1, .int (0 : Int32), .int 0])), (q1, .inl (cA2, 30, .inl (fun _ => 0)))] H := hP
  have hD : va_D A [(h0, .inr (9, [.ref q1, .int (0 : Int32), .int 0])), (q1, .inl (cA2, 30, .inl (fun _ => 0)))] := hD
  refine lv_aload_n hx hb dX9_init_17 rfl (lv_at hl 0 rfl) ?_
  refine lv_iconst (v := 0) hx hb dX9_init_18 (by decide +kernel) ?_
  refine va_put (D := D) (ci := 9) (v := .int (0 : Int32)) (ty := .boolean) (C := RX9) (T := TX9) (N := 3) hx hb hts hiX9 tyX9 tyX9_ok nmX9 hown hK hP hD hS 0 rfl rfl 2 (by decide) lk6 (fun _ h => h) rfl (by decide +kernel) rfl rfl (Nat.le_of_ble_eq_true rfl) dX9_init_19 (fun H locs hP hD hS => ?_)
  have hP : va_P D vwCl [(h0, .inr (9, [.ref q1, .int (0 : Int32), .int (0 : Int32)])), (q1, .inl (cA2, 30, .inl (fun _ => 0)))] H := hP
  have hD : va_D A [(h0, .inr (9, [.ref q1, .int (0 : Int32), .int (0 : Int32)])), (q1, .inl (cA2, 30, .inl (fun _ => 0)))] := hD
  exact W.vret hx hb hr (fun t ht hW => ⟨⟨(fun j => ([q1] : List Nat).getD j 0, fun j => ([cA2] : List ClassId).getD j 0), rfl, trivial, by rw [ht]; exact hP, va_K.moved hW.alike hK, hD⟩, hS.F ht⟩) hS.2.2 dX9_init_22 hlocks
set_option maxHeartbeats 4000000 in
set_option maxRecDepth 100000 in
theorem c_X10_init (l : Launch) (D : va_G) (h0 : Nat) (sz : Nat) : Met l yX10_init wsX10_init { frames := 2, cells := 15, slots := 344, locals := 40 } (va_Pc [.ref h0] (fun U => U.heap.size = sz ∧ va_P D vwCl [(h0, .inr (10, [.null, .null, .null, .int 0, .int 0, .int 0]))] U.heap ∧ va_K D vwCl [] U ∧ va_D (fun _ => True) [(h0, .inr (10, [.null, .null, .null, .int 0, .int 0, .int 0]))] ∧ NW U ∧ va_AO "SlowPanes$Pane" U ∧ va_AO "SlowPanes$Sheet" U)) (va_Qv (fun _ : (Nat → Nat) × (Nat → ClassId) => True) (fun u t => va_P D vwCl [(h0, .inr (10, [.ref (u.1 0), .ref (u.1 1), .ref (u.1 2), .int (0 : Int32), .int (0 : Int32), .int (1 : Int32)])), ((u.1 0), .inl ((u.2 0), 200, .inl (fun _ => 0))), ((u.1 1), .inl ((u.2 0), 12, .inl (upd (upd (upd (upd (upd (upd (upd (upd (upd (upd (upd (upd (fun _ => 0) 0 (1 : Int32)) 1 (1 : Int32)) 2 (1 : Int32)) 3 (1 : Int32)) 4 (1 : Int32)) 5 (1 : Int32)) 6 (1 : Int32)) 7 (1 : Int32)) 8 (1 : Int32)) 9 (1 : Int32)) 10 (1 : Int32)) 11 (1 : Int32)))), ((u.1 2), .inl ((u.2 1), 6, .inr (.inr (.inr (.inr (va_up (va_up (va_up (va_up (va_up (va_up (fun _ => none) 0 (some (u.1 3))) 1 (some (u.1 5))) 2 (some (u.1 7))) 3 (some (u.1 9))) 4 (some (u.1 11))) 5 (some (u.1 13)))))))), ((u.1 3), .inr (3, [.ref (u.1 4), .int (0 : Int32), .int (0 : Int32), .int (1 : Int32), .int (4 : Int32)])), ((u.1 4), .inl ((u.2 0), 16, .inl (fun _ => 0))), ((u.1 5), .inr (3, [.ref (u.1 6), .int (0 : Int32), .int (0 : Int32), .int (1 : Int32), .int (4 : Int32)])), ((u.1 6), .inl ((u.2 0), 16, .inl (fun _ => 0))), ((u.1 7), .inr (3, [.ref (u.1 8), .int (0 : Int32), .int (0 : Int32), .int (1 : Int32), .int (4 : Int32)])), ((u.1 8), .inl ((u.2 0), 16, .inl (fun _ => 0))), ((u.1 9), .inr (3, [.ref (u.1 10), .int (0 : Int32), .int (0 : Int32), .int (1 : Int32), .int (4 : Int32)])), ((u.1 10), .inl ((u.2 0), 16, .inl (fun _ => 0))), ((u.1 11), .inr (3, [.ref (u.1 12), .int (0 : Int32), .int (0 : Int32), .int (1 : Int32), .int (4 : Int32)])), ((u.1 12), .inl ((u.2 0), 16, .inl (fun _ => 0))), ((u.1 13), .inr (3, [.ref (u.1 14), .int (0 : Int32), .int (0 : Int32), .int (1 : Int32), .int (4 : Int32)])), ((u.1 14), .inl ((u.2 0), 16, .inl (fun _ => 0)))] t.heap ∧ va_K D vwCl [((u.2 0), .int), ((u.2 1), .object RX3)] t ∧ va_D (va_A [(h0, .inr (10, [.null, .null, .null, .int 0, .int 0, .int 0]))] sz) [(h0, .inr (10, [.ref (u.1 0), .ref (u.1 1), .ref (u.1 2), .int (0 : Int32), .int (0 : Int32), .int (1 : Int32)])), ((u.1 0), .inl ((u.2 0), 200, .inl (fun _ => 0))), ((u.1 1), .inl ((u.2 0), 12, .inl (upd (upd (upd (upd (upd (upd (upd (upd (upd (upd (upd (upd (fun _ => 0) 0 (1 : Int32)) 1 (1 : Int32)) 2 (1 : Int32)) 3 (1 : Int32)) 4 (1 : Int32)) 5 (1 : Int32)) 6 (1 : Int32)) 7 (1 : Int32)) 8 (1 : Int32)) 9 (1 : Int32)) 10 (1 : Int32)) 11 (1 : Int32)))), ((u.1 2), .inl ((u.2 1), 6, .inr (.inr (.inr (.inr (va_up (va_up (va_up (va_up (va_up (va_up (fun _ => none) 0 (some (u.1 3))) 1 (some (u.1 5))) 2 (some (u.1 7))) 3 (some (u.1 9))) 4 (some (u.1 11))) 5 (some (u.1 13)))))))), ((u.1 3), .inr (3, [.ref (u.1 4), .int (0 : Int32), .int (0 : Int32), .int (1 : Int32), .int (4 : Int32)])), ((u.1 4), .inl ((u.2 0), 16, .inl (fun _ => 0))), ((u.1 5), .inr (3, [.ref (u.1 6), .int (0 : Int32), .int (0 : Int32), .int (1 : Int32), .int (4 : Int32)])), ((u.1 6), .inl ((u.2 0), 16, .inl (fun _ => 0))), ((u.1 7), .inr (3, [.ref (u.1 8), .int (0 : Int32), .int (0 : Int32), .int (1 : Int32), .int (4 : Int32)])), ((u.1 8), .inl ((u.2 0), 16, .inl (fun _ => 0))), ((u.1 9), .inr (3, [.ref (u.1 10), .int (0 : Int32), .int (0 : Int32), .int (1 : Int32), .int (4 : Int32)])), ((u.1 10), .inl ((u.2 0), 16, .inl (fun _ => 0))), ((u.1 11), .inr (3, [.ref (u.1 12), .int (0 : Int32), .int (0 : Int32), .int (1 : Int32), .int (4 : Int32)])), ((u.1 12), .inl ((u.2 0), 16, .inl (fun _ => 0))), ((u.1 13), .inr (3, [.ref (u.1 14), .int (0 : Int32), .int (0 : Int32), .int (1 : Int32), .int (4 : Int32)])), ((u.1 14), .inl ((u.2 0), 16, .inl (fun _ => 0)))]) (va_A [(h0, .inr (10, [.null, .null, .null, .int 0, .int 0, .int 0]))] sz)) 15 344 (va_A [(h0, .inr (10, [.null, .null, .null, .int 0, .int 0, .int 0]))] sz) := by
  refine Met.ofW (cc := cX10_init) (maxL := 2) (ret := none) (by decide) rfl ?_
  intro p e s m args below meth c s₁ B hml hv
  obtain ⟨rfl, hsz, hP, hK, hD0, hN, hAO⟩ := hv
  have hx := B.exec
  have hb := B.bytes
  have hr := B.returns
  have hts := atoms_spec (ws := wsX10_init) B.pre
  have hown : s.vm.findClass RX10 = some m.cls := findClass_of_methodNamed B.named
  have hlocks := B.notSynchronized
  have hin : meth.name = "<init>" := (name_of_methodNamed B.named B.method).1
  subst hsz
  have hD := hD0.self (sz := s.heap.size)
  generalize hAe : va_A [(h0, .inr (10, [.null, .null, .null, .int 0, .int 0, .int 0]))] s.heap.size = A at hD ⊢
  have hA : ∀ q : Nat, s.heap.size ≤ q → A q := fun q h => by rw [← hAe]; exact Or.inr h
  have hS : va_S A s.heap s.heap [] := va_S.rf
  have hP : va_P D vwCl [(h0, .inr (10, [.null, .null, .null, .int 0, .int 0, .int 0]))] s.heap := hP
  have hiX10 : ∀ w ∈ u_ws RX10 TX10 6, w ∈ wsX10_init := by decide +kernel
  have hiX3 : ∀ w ∈ u_ws RX3 TX3 5, w ∈ wsX10_init := by decide +kernel
  have lk0 := hts (.methodLink RX10 3 objectInit) (by decide +kernel)
  have lk1 := hts (.instanceMethod objectInit) (by decide +kernel)
  have lk2 := hts (.code objectInit ⟨#[0xb1]⟩ 1 none) (by decide +kernel)
  have lk3 := hts (.arrayClass .int) (by decide +kernel)
  have lk4 := hts (.fieldLink RX10 9 "SlowPanes$World" "views" "[I") (by decide +kernel)
  have lk5 := hts (.fieldLink RX10 15 "SlowPanes$World" "loves" "[I") (by decide +kernel)
  have lk6 := hts (.classLink RX10 18 RX3) (by decide +kernel)
  have lk7 := hts (.fieldLink RX10 20 "SlowPanes$World" "panes" "[LSlowPanes$Pane;") (by decide +kernel)
  have lk8 := hts (.fieldLink RX10 24 "SlowPanes$World" "count" "I") (by decide +kernel)
  have lk9 := hts (.fieldLink RX10 28 "SlowPanes$World" "today" "I") (by decide +kernel)
  have lk10 := hts (.fieldLink RX10 31 "SlowPanes$World" "z" "I") (by decide +kernel)
  have lk11 := hts (.instantiable RX3 5) (by decide +kernel)
  have lk12 := hts (.initialized RX3) (by decide +kernel)
  have lk13 := hts (.instanceMethod yX3_init) (by decide +kernel)
  have hl := lv_entry ([.ref h0]) (n := 2) (Nat.le_of_ble_eq_true rfl)
  rw [lg_entry_eq]
  generalize (lg_sl ([.ref h0]) ++ List.replicate (2 - (lg_sl ([.ref h0])).length) Slot.unset).toArray = ls at hl ⊢
  have hl : lv_has ls 2 [(0, .ref h0)] := hl
  refine lv_aload_n hx hb dX10_init_0 rfl (lv_at hl 0 rfl) ?_
  refine W.objInit hx hb hown lk0 lk1 lk2 rfl (by rw [hml]; exact hl.1) rfl dX10_init_1 (Nat.le_of_ble_eq_true rfl) (Nat.le_of_ble_eq_true rfl) ?_
  refine W.eq (g2 := F0 m 4 ls []) rfl ?_
  refine lv_aload_n hx hb dX10_init_4 rfl (lv_at hl 0 rfl) ?_
  refine lv_sipush (v := 200) hx hb dX10_init_5 (by decide +kernel) ?_
  have hk3 : 1 ≤ 15 := by decide
  have hk4 : 200 ≤ 344 := Nat.le_of_ble_eq_true rfl
  refine va_newa (D := D) (atype := .int) (ty := .int) (N' := 200) (a0 := (200, .inl (fun _ => 0))) hx hb lk3 rfl hK hP hD hS hA (fun _ => rfl) (by decide) (by decide) (by decide) hk3 hk4 dX10_init_8 (fun q1 cA2 H hK hP hD hS => ?_)
  have hK : va_K D vwCl [(cA2, .int)] s := hK
  have hP : va_P D vwCl [(h0, .inr (10, [.null, .null, .null, .int 0, .int 0, .int 0])), (q1, .inl (cA2, 200, .inl (fun _ => 0)))] H := hP
  have hD : va_D A [(h0, .inr (10, [.null, .null, .null, .int 0, .int 0, .int 0])), (q1, .inl (cA2, 200, .inl (fun _ => 0)))] := hD
  refine W.widen (k := 1) (n := 200) (Nat.le_refl _) (Nat.le_of_ble_eq_true rfl) ?_
  refine va_putF (D := D) (ci := 10) (v := .ref q1) (ty := .array .int) (C := RX10) (T := TX10) (N := 6) hx hb hts hiX10 tyX10 tyX10_ok nmX10 hown hK hP hD hS 0 rfl rfl 0 (by decide) lk4 (fun _ h => h) rfl hin rfl (by decide +kernel) rfl rfl (Nat.le_of_ble_eq_true rfl) dX10_init_10 (fun H locs hP hD hS => ?_)
  have hP : va_P D vwCl [(h0, .inr (10, [.ref q1, .null, .null, .int 0, .int 0, .int 0])), (q1, .inl (cA2, 200, .inl (fun _ => 0)))] H := hP
  have hD : va_D A [(h0, .inr (10, [.ref q1, .null, .null, .int 0, .int 0, .int 0])), (q1, .inl (cA2, 200, .inl (fun _ => 0)))] := hD
  refine lv_aload_n hx hb dX10_init_13 rfl (lv_at hl 0 rfl) ?_
  refine lv_bipush (v := 12) hx hb dX10_init_14 (by decide +kernel) ?_
  have hk7 : 2 ≤ 15 := by decide
  have hk8 : 212 ≤ 344 := Nat.le_of_ble_eq_true rfl
  refine va_newa (D := D) (atype := .int) (ty := .int) (N' := 12) (a0 := (12, .inl (fun _ => 0))) hx hb lk3 rfl hK hP hD hS hA (fun _ => rfl) (by decide) (by decide) (by decide) hk7 hk8 dX10_init_16 (fun q5 cA6 H hK hP hD hS => ?_)
  have hK : va_K D vwCl [(cA2, .int), (cA6, .int)] s := hK
  obtain rfl : cA2 = cA6 := K_same hK 0 1 rfl rfl
  have hK : va_K D vwCl [(cA2, .int)] s := hK.sub [0] rfl
  have hP : va_P D vwCl [(h0, .inr (10, [.ref q1, .null, .null, .int 0, .int 0, .int 0])), (q1, .inl (cA2, 200, .inl (fun _ => 0))), (q5, .inl (cA2, 12, .inl (fun _ => 0)))] H := hP
  have hD : va_D A [(h0, .inr (10, [.ref q1, .null, .null, .int 0, .int 0, .int 0])), (q1, .inl (cA2, 200, .inl (fun _ => 0))), (q5, .inl (cA2, 12, .inl (fun _ => 0)))] := hD
  refine W.widen (k := 2) (n := 212) (Nat.le_refl _) (Nat.le_of_ble_eq_true rfl) ?_
  refine va_putF (D := D) (ci := 10) (v := .ref q5) (ty := .array .int) (C := RX10) (T := TX10) (N := 6) hx hb hts hiX10 tyX10 tyX10_ok nmX10 hown hK hP hD hS 0 rfl rfl 1 (by decide) lk5 (fun _ h => h) rfl hin rfl (by decide +kernel) rfl rfl (Nat.le_of_ble_eq_true rfl) dX10_init_18 (fun H locs hP hD hS => ?_)
  have hP : va_P D vwCl [(h0, .inr (10, [.ref q1, .ref q5, .null, .int 0, .int 0, .int 0])), (q1, .inl (cA2, 200, .inl (fun _ => 0))), (q5, .inl (cA2, 12, .inl (fun _ => 0)))] H := hP
  have hD : va_D A [(h0, .inr (10, [.ref q1, .ref q5, .null, .int 0, .int 0, .int 0])), (q1, .inl (cA2, 200, .inl (fun _ => 0))), (q5, .inl (cA2, 12, .inl (fun _ => 0)))] := hD
  refine lv_aload_n hx hb dX10_init_21 rfl (lv_at hl 0 rfl) ?_
  refine lv_bipush (v := 6) hx hb dX10_init_22 (by decide +kernel) ?_
  have hk11 : 3 ≤ 15 := by decide
  have hk12 : 218 ≤ 344 := Nat.le_of_ble_eq_true rfl
  refine va_newq (D := D) (C := RX3) (N' := 6) hx hb hown lk6 hAO.1 hK hP hD hS hA (by decide) (by decide) (by decide) hk11 hk12 dX10_init_24 (fun q9 cA10 H hK hP hD hS => ?_)
  have hK : va_K D vwCl [(cA2, .int), (cA10, .object RX3)] s := hK
  have hP : va_P D vwCl [(h0, .inr (10, [.ref q1, .ref q5, .null, .int 0, .int 0, .int 0])), (q1, .inl (cA2, 200, .inl (fun _ => 0))), (q5, .inl (cA2, 12, .inl (fun _ => 0))), (q9, .inl (cA10, 6, .inr (.inr (.inr (.inr (fun _ => none))))))] H := hP
  have hD : va_D A [(h0, .inr (10, [.ref q1, .ref q5, .null, .int 0, .int 0, .int 0])), (q1, .inl (cA2, 200, .inl (fun _ => 0))), (q5, .inl (cA2, 12, .inl (fun _ => 0))), (q9, .inl (cA10, 6, .inr (.inr (.inr (.inr (fun _ => none))))))] := hD
  refine W.widen (k := 3) (n := 218) (Nat.le_refl _) (Nat.le_of_ble_eq_true rfl) ?_
  refine va_putF (D := D) (ci := 10) (v := .ref q9) (ty := .array (.object "SlowPanes$Pane")) (C := RX10) (T := TX10) (N := 6) hx hb hts hiX10 tyX10 tyX10_ok nmX10 hown hK hP hD hS 0 rfl rfl 2 (by decide) lk7 (fun _ h => h) rfl hin rfl (by decide +kernel) rfl rfl (Nat.le_of_ble_eq_true rfl) dX10_init_27 (fun H locs hP hD hS => ?_)
  have hP : va_P D vwCl [(h0, .inr (10, [.ref q1, .ref q5, .ref q9, .int 0, .int 0, .int 0])), (q1, .inl (cA2, 200, .inl (fun _ => 0))), (q5, .inl (cA2, 12, .inl (fun _ => 0))), (q9, .inl (cA10, 6, .inr (.inr (.inr (.inr (fun _ => none))))))] H := hP
  have hD : va_D A [(h0, .inr (10, [.ref q1, .ref q5, .ref q9, .int 0, .int 0, .int 0])), (q1, .inl (cA2, 200, .inl (fun _ => 0))), (q5, .inl (cA2, 12, .inl (fun _ => 0))), (q9, .inl (cA10, 6, .inr (.inr (.inr (.inr (fun _ => none))))))] := hD
  refine lv_aload_n hx hb dX10_init_30 rfl (lv_at hl 0 rfl) ?_
  refine lv_iconst (v := 0) hx hb dX10_init_31 (by decide +kernel) ?_
  refine va_put (D := D) (ci := 10) (v := .int (0 : Int32)) (ty := .int) (C := RX10) (T := TX10) (N := 6) hx hb hts hiX10 tyX10 tyX10_ok nmX10 hown hK hP hD hS 0 rfl rfl 3 (by decide) lk8 (fun _ h => h) rfl (by decide +kernel) rfl rfl (Nat.le_of_ble_eq_true rfl) dX10_init_32 (fun H locs hP hD hS => ?_)
  have hP : va_P D vwCl [(h0, .inr (10, [.ref q1, .ref q5, .ref q9, .int (0 : Int32), .int 0, .int 0])), (q1, .inl (cA2, 200, .inl (fun _ => 0))), (q5, .inl (cA2, 12, .inl (fun _ => 0))), (q9, .inl (cA10, 6, .inr (.inr (.inr (.inr (fun _ => none))))))] H := hP
  have hD : va_D A [(h0, .inr (10, [.ref q1, .ref q5, .ref q9, .int (0 : Int32), .int 0, .int 0])), (q1, .inl (cA2, 200, .inl (fun _ => 0))), (q5, .inl (cA2, 12, .inl (fun _ => 0))), (q9, .inl (cA10, 6, .inr (.inr (.inr (.inr (fun _ => none))))))] := hD
  refine lv_aload_n hx hb dX10_init_35 rfl (lv_at hl 0 rfl) ?_
  refine lv_iconst (v := 0) hx hb dX10_init_36 (by decide +kernel) ?_
  refine va_put (D := D) (ci := 10) (v := .int (0 : Int32)) (ty := .int) (C := RX10) (T := TX10) (N := 6) hx hb hts hiX10 tyX10 tyX10_ok nmX10 hown hK hP hD hS 0 rfl rfl 4 (by decide) lk9 (fun _ h => h) rfl (by decide +kernel) rfl rfl (Nat.le_of_ble_eq_true rfl) dX10_init_37 (fun H locs hP hD hS => ?_)
  have hP : va_P D vwCl [(h0, .inr (10, [.ref q1, .ref q5, .ref q9, .int (0 : Int32), .int (0 : Int32), .int 0])), (q1, .inl (cA2, 200, .inl (fun _ => 0))), (q5, .inl (cA2, 12, .inl (fun _ => 0))), (q9, .inl (cA10, 6, .inr (.inr (.inr (.inr (fun _ => none))))))] H := hP
  have hD : va_D A [(h0, .inr (10, [.ref q1, .ref q5, .ref q9, .int (0 : Int32), .int (0 : Int32), .int 0])), (q1, .inl (cA2, 200, .inl (fun _ => 0))), (q5, .inl (cA2, 12, .inl (fun _ => 0))), (q9, .inl (cA10, 6, .inr (.inr (.inr (.inr (fun _ => none))))))] := hD
  refine lv_aload_n hx hb dX10_init_40 rfl (lv_at hl 0 rfl) ?_
  refine lv_iconst (v := 1) hx hb dX10_init_41 (by decide +kernel) ?_
  refine va_put (D := D) (ci := 10) (v := .int (1 : Int32)) (ty := .int) (C := RX10) (T := TX10) (N := 6) hx hb hts hiX10 tyX10 tyX10_ok nmX10 hown hK hP hD hS 0 rfl rfl 5 (by decide) lk10 (fun _ h => h) rfl (by decide +kernel) rfl rfl (Nat.le_of_ble_eq_true rfl) dX10_init_42 (fun H locs hP hD hS => ?_)
  have hP : va_P D vwCl [(h0, .inr (10, [.ref q1, .ref q5, .ref q9, .int (0 : Int32), .int (0 : Int32), .int (1 : Int32)])), (q1, .inl (cA2, 200, .inl (fun _ => 0))), (q5, .inl (cA2, 12, .inl (fun _ => 0))), (q9, .inl (cA10, 6, .inr (.inr (.inr (.inr (fun _ => none))))))] H := hP
  have hD : va_D A [(h0, .inr (10, [.ref q1, .ref q5, .ref q9, .int (0 : Int32), .int (0 : Int32), .int (1 : Int32)])), (q1, .inl (cA2, 200, .inl (fun _ => 0))), (q5, .inl (cA2, 12, .inl (fun _ => 0))), (q9, .inl (cA10, 6, .inr (.inr (.inr (.inr (fun _ => none))))))] := hD
  refine lv_iconst (v := 0) hx hb dX10_init_45 (by decide +kernel) ?_
  refine lv_istore_n (lv' := [(1, .int (0 : Int32)), (0, .ref h0)]) hx hb dX10_init_46 rfl hl (by decide) rfl (fun ls hl => ?_)
  refine lv_iload_n hx hb dX10_init_47 rfl (lv_at hl 0 rfl) ?_
  refine lv_bipush (v := 6) hx hb dX10_init_48 (by decide +kernel) ?_
  refine lv_icmp_ge (tgt := 72) hx hb dX10_init_50 (by decide) (fun hc => absurd hc (by decide)) (fun hc => ?_)
  refine lv_aload_n hx hb dX10_init_53 rfl (lv_at hl 1 rfl) ?_
  refine va_get (D := D) (ci := 10) (v := .ref q9) (C := RX10) (T := TX10) (N := 6) hx hb hts hiX10 hown hK hP 0 rfl rfl 2 (by decide) lk7 (fun _ h => h) rfl dX10_init_54 ?_
  refine lv_iload_n hx hb dX10_init_57 rfl (lv_at hl 0 rfl) ?_
  have hk14 : 4 ≤ 15 := by decide
  have hk15 : 223 ≤ 344 := Nat.le_of_ble_eq_true rfl
  refine va_new (D := D) (ci := 3) (fs := [.null, .int 0, .int 0, .int 0, .int 0]) (C := RX3) (T := TX3) (N := 5) hx hb hts hiX3 tyX3 tyX3_ok hown lk6 lk11 lk12 hK hP hD hS hA rfl (fun j hj => by rcases (show j = 0 ∨ j = 1 ∨ j = 2 ∨ j = 3 ∨ j = 4 by omega) with rfl | rfl | rfl | rfl | rfl <;> rfl) hk14 hk15 dX10_init_58 (fun q13 H hP hD hS => ?_)
  have hP : va_P D vwCl [(h0, .inr (10, [.ref q1, .ref q5, .ref q9, .int (0 : Int32), .int (0 : Int32), .int (1 : Int32)])), (q1, .inl (cA2, 200, .inl (fun _ => 0))), (q5, .inl (cA2, 12, .inl (fun _ => 0))), (q9, .inl (cA10, 6, .inr (.inr (.inr (.inr (fun _ => none)))))), (q13, .inr (3, [.null, .int 0, .int 0, .int 0, .int 0]))] H := hP
  have hD : va_D A [(h0, .inr (10, [.ref q1, .ref q5, .ref q9, .int (0 : Int32), .int (0 : Int32), .int (1 : Int32)])), (q1, .inl (cA2, 200, .inl (fun _ => 0))), (q5, .inl (cA2, 12, .inl (fun _ => 0))), (q9, .inl (cA10, 6, .inr (.inr (.inr (.inr (fun _ => none)))))), (q13, .inr (3, [.null, .int 0, .int 0, .int 0, .int 0]))] := hD
  refine W.widen (k := 4) (n := 223) (Nat.le_refl _) (Nat.le_of_ble_eq_true rfl) ?_
  refine lv_dup hx hb dX10_init_61 rfl ?_
  have hPc := hP.sub (ws' := [(q13, .inr (3, [.null, .int 0, .int 0, .int 0, .int 0]))]) [4] rfl
  have hDc := hD.sub (ws' := [(q13, .inr (3, [.null, .int 0, .int 0, .int 0, .int 0]))]) [4] (by decide) rfl
  have hKc := hK.sub (tys' := []) [] rfl
  have hFc := va_free (wc := [(q13, .inr (3, [.null, .int 0, .int 0, .int 0, .int 0]))]) hD hS hA [4] rfl
  have hk16 : 5 ≤ 15 := by decide
  have hk17 : 239 ≤ 344 := Nat.le_of_ble_eq_true rfl
  refine va_callv (va_runIN (As := []) (rest := [.ref q13, .int (0 : Int32), .ref q9]) ⟨hx, hb, hml, hown, hts⟩ (c_X3_init l D q13 H.size) ⟨va_cnB 0 hts gX10_init_X3_init_n34 rfl rfl rfl (hN _ (List.mem_of_getElem? (i := 6) rfl)) lk12 (by decide +kernel) ⟨(Nat.le_of_ble_eq_true rfl), (Nat.le_of_ble_eq_true rfl)⟩, rfl, lk13⟩ ⟨i_blind, fun U hU hW => ⟨rfl, by rw [hU], by rw [hU]; exact hPc, va_K.moved hW.alike hKc, hDc.weaken (fun _ _ _ _ => trivial), hN.warm hW, hAO.1.moved hW.alike, hAO.2.moved hW.alike⟩⟩ rfl rfl hl.1 rfl (lv_room (Nat.le_of_ble_eq_true rfl)) dX10_init_62 ⟨hk16, hk17⟩) hS (fun q _ h => hFc q h) hFc (fun u18 t H1 locs ht hvm hw hB hz1 hk1 hS => ?_)
  obtain ⟨hP1, hK1, hD1⟩ := hB
  rw [ht] at hP1
  have hK1 := va_K.moved hvm.symm hK1
  obtain ⟨hP, hD⟩ := va_join (wr := [(h0, .inr (10, [.ref q1, .ref q5, .ref q9, .int (0 : Int32), .int (0 : Int32), .int (1 : Int32)])), (q1, .inl (cA2, 200, .inl (fun _ => 0))), (q5, .inl (cA2, 12, .inl (fun _ => 0))), (q9, .inl (cA10, 6, .inr (.inr (.inr (.inr (fun _ => none))))))]) (w1 := [(q13, .inr (3, [.ref (u18.1 0), .int (0 : Int32), .int (0 : Int32), .int (1 : Int32), .int (4 : Int32)])), ((u18.1 0), .inl ((u18.2 0), 16, .inl (fun _ => 0)))]) hP hD [4] [0, 1, 2, 3] rfl rfl (by decide) (by decide) hk1 hFc hP1 hD1
  have hK := (hK.sub (tys' := [(cA2, .int), (cA10, .object RX3)]) [0, 1] rfl).app hK1
  generalize H1 = H at hP hS ⊢
  have hP := hP.sub (ws' := [(h0, .inr (10, [.ref q1, .ref q5, .ref q9, .int (0 : Int32), .int (0 : Int32), .int (1 : Int32)])), (q1, .inl (cA2, 200, .inl (fun _ => 0))), (q5, .inl (cA2, 12, .inl (fun _ => 0))), (q9, .inl (cA10, 6, .inr (.inr (.inr (.inr (fun _ => none)))))), (q13, .inr (3, [.ref (u18.1 0), .int (0 : Int32), .int (0 : Int32), .int (1 : Int32), .int (4 : Int32)])), ((u18.1 0), .inl ((u18.2 0), 16, .inl (fun _ => 0)))]) [0, 1, 2, 3, 4, 5] rfl
  have hD := hD.sub (ws' := [(h0, .inr (10, [.ref q1, .ref q5, .ref q9, .int (0 : Int32), .int (0 : Int32), .int (1 : Int32)])), (q1, .inl (cA2, 200, .inl (fun _ => 0))), (q5, .inl (cA2, 12, .inl (fun _ => 0))), (q9, .inl (cA10, 6, .inr (.inr (.inr (.inr (fun _ => none)))))), (q13, .inr (3, [.ref (u18.1 0), .int (0 : Int32), .int (0 : Int32), .int (1 : Int32), .int (4 : Int32)])), ((u18.1 0), .inl ((u18.2 0), 16, .inl (fun _ => 0)))]) [0, 1, 2, 3, 4, 5] (by decide) rfl
  have hK : va_K D vwCl [(cA2, .int), (cA10, .object RX3), ((u18.2 0), .int)] s := hK
  have eK19 : (u18.2 0) = cA2 := K_same hK 2 0 rfl rfl
  have hK := hK.sub (tys' := [(cA2, .int), (cA10, .object RX3)]) [0, 1] rfl
  rw [eK19] at hP hD
  have hP : va_P D vwCl [(h0, .inr (10, [.ref q1, .ref q5, .ref q9, .int (0 : Int32), .int (0 : Int32), .int (1 : Int32)])), (q1, .inl (cA2, 200, .inl (fun _ => 0))), (q5, .inl (cA2, 12, .inl (fun _ => 0))), (q9, .inl (cA10, 6, .inr (.inr (.inr (.inr (fun _ => none)))))), (q13, .inr (3, [.ref (u18.1 0), .int (0 : Int32), .int (0 : Int32), .int (1 : Int32), .int (4 : Int32)])), ((u18.1 0), .inl (cA2, 16, .inl (fun _ => 0)))] H := hP
  have hD : va_D A [(h0, .inr (10, [.ref q1, .ref q5, .ref q9, .int (0 : Int32), .int (0 : Int32), .int (1 : Int32)])), (q1, .inl (cA2, 200, .inl (fun _ => 0))), (q5, .inl (cA2, 12, .inl (fun _ => 0))), (q9, .inl (cA10, 6, .inr (.inr (.inr (.inr (fun _ => none)))))), (q13, .inr (3, [.ref (u18.1 0), .int (0 : Int32), .int (0 : Int32), .int (1 : Int32), .int (4 : Int32)])), ((u18.1 0), .inl (cA2, 16, .inl (fun _ => 0)))] := hD
  refine W.widen (k := 5) (n := 239) (Nat.le_refl _) (Nat.le_of_ble_eq_true rfl) ?_
  refine va_astq (D := D) (r := (RX3, TX3, 5)) hx hb hK hP hD hS 3 1 4 3 rfl rfl rfl rfl (by unfold vp_in; decide) dX10_init_65 (fun H locs hP hD hS => ?_)
  have hP : va_P D vwCl [(h0, .inr (10, [.ref q1, .ref q5, .ref q9, .int (0 : Int32), .int (0 : Int32), .int (1 : Int32)])), (q1, .inl (cA2, 200, .inl (fun _ => 0))), (q5, .inl (cA2, 12, .inl (fun _ => 0))), (q9, .inl (cA10, 6, .inr (.inr (.inr (.inr (va_up (fun _ => none) 0 (some q13))))))), (q13, .inr (3, [.ref (u18.1 0), .int (0 : Int32), .int (0 : Int32), .int (1 : Int32), .int (4 : Int32)])), ((u18.1 0), .inl (cA2, 16, .inl (fun _ => 0)))] H := hP
  have hD : va_D A [(h0, .inr (10, [.ref q1, .ref q5, .ref q9, .int (0 : Int32), .int (0 : Int32), .int (1 : Int32)])), (q1, .inl (cA2, 200, .inl (fun _ => 0))), (q5, .inl (cA2, 12, .inl (fun _ => 0))), (q9, .inl (cA10, 6, .inr (.inr (.inr (.inr (va_up (fun _ => none) 0 (some q13))))))), (q13, .inr (3, [.ref (u18.1 0), .int (0 : Int32), .int (0 : Int32), .int (1 : Int32), .int (4 : Int32)])), ((u18.1 0), .inl (cA2, 16, .inl (fun _ => 0)))] := hD
  refine lv_iinc (v := 1) (lv' := [(1, .int (1 : Int32)), (0, .ref h0)]) hx hb dX10_init_66 hl (k := 0) rfl (by decide +kernel) (by decide) rfl (fun ls hl => ?_)
  refine lv_goto (tgt := 47) hx hb dX10_init_69 (by decide) ?_
  refine lv_iload_n hx hb dX10_init_47 rfl (lv_at hl 0 rfl) ?_
  refine lv_bipush (v := 6) hx hb dX10_init_48 (by decide +kernel) ?_
  refine lv_icmp_ge (tgt := 72) hx hb dX10_init_50 (by decide) (fun hc => absurd hc (by decide)) (fun hc => ?_)
  refine lv_aload_n hx hb dX10_init_53 rfl (lv_at hl 1 rfl) ?_
  refine va_get (D := D) (ci := 10) (v := .ref q9) (C := RX10) (T := TX10) (N := 6) hx hb hts hiX10 hown hK hP 0 rfl rfl 2 (by decide) lk7 (fun _ h => h) rfl dX10_init_54 ?_
  refine lv_iload_n hx hb dX10_init_57 rfl (lv_at hl 0 rfl) ?_
  have hk21 : 6 ≤ 15 := by decide
  have hk22 : 244 ≤ 344 := Nat.le_of_ble_eq_true rfl
  refine va_new (D := D) (ci := 3) (fs := [.null, .int 0, .int 0, .int 0, .int 0]) (C := RX3) (T := TX3) (N := 5) hx hb hts hiX3 tyX3 tyX3_ok hown lk6 lk11 lk12 hK hP hD hS hA rfl (fun j hj => by rcases (show j = 0 ∨ j = 1 ∨ j = 2 ∨ j = 3 ∨ j = 4 by omega) with rfl | rfl | rfl | rfl | rfl <;> rfl) hk21 hk22 dX10_init_58 (fun q20 H hP hD hS => ?_)
  have hP : va_P D vwCl [(h0, .inr (10, [.ref q1, .ref q5, .ref q9, .int (0 : Int32), .int (0 : Int32), .int (1 : Int32)])), (q1, .inl (cA2, 200, .inl (fun _ => 0))), (q5, .inl (cA2, 12, .inl (fun _ => 0))), (q9, .inl (cA10, 6, .inr (.inr (.inr (.inr (va_up (fun _ => none) 0 (some q13))))))), (q13, .inr (3, [.ref (u18.1 0), .int (0 : Int32), .int (0 : Int32), .int (1 : Int32), .int (4 : Int32)])), ((u18.1 0), .inl (cA2, 16, .inl (fun _ => 0))), (q20, .inr (3, [.null, .int 0, .int 0, .int 0, .int 0]))] H := hP
  have hD : va_D A [(h0, .inr (10, [.ref q1, .ref q5, .ref q9, .int (0 : Int32), .int (0 : Int32), .int (1 : Int32)])), (q1, .inl (cA2, 200, .inl (fun _ => 0))), (q5, .inl (cA2, 12, .inl (fun _ => 0))), (q9, .inl (cA10, 6, .inr (.inr (.inr (.inr (va_up (fun _ => none) 0 (some q13))))))), (q13, .inr (3, [.ref (u18.1 0), .int (0 : Int32), .int (0 : Int32), .int (1 : Int32), .int (4 : Int32)])), ((u18.1 0), .inl (cA2, 16, .inl (fun _ => 0))), (q20, .inr (3, [.null, .int 0, .int 0, .int 0, .int 0]))] := hD
  refine W.widen (k := 6) (n := 244) (Nat.le_refl _) (Nat.le_of_ble_eq_true rfl) ?_
  refine lv_dup hx hb dX10_init_61 rfl ?_
  have hPc := hP.sub (ws' := [(q20, .inr (3, [.null, .int 0, .int 0, .int 0, .int 0]))]) [6] rfl
  have hDc := hD.sub (ws' := [(q20, .inr (3, [.null, .int 0, .int 0, .int 0, .int 0]))]) [6] (by decide) rfl
  have hKc := hK.sub (tys' := []) [] rfl
  have hFc := va_free (wc := [(q20, .inr (3, [.null, .int 0, .int 0, .int 0, .int 0]))]) hD hS hA [6] rfl
  have hk23 : 7 ≤ 15 := by decide
  have hk24 : 260 ≤ 344 := Nat.le_of_ble_eq_true rfl
  refine va_callv (va_runIN (As := []) (rest := [.ref q20, .int (1 : Int32), .ref q9]) ⟨hx, hb, hml, hown, hts⟩ (c_X3_init l D q20 H.size) ⟨va_cnB 0 hts gX10_init_X3_init_n34 rfl rfl rfl (hN _ (List.mem_of_getElem? (i := 6) rfl)) lk12 (by decide +kernel) ⟨(Nat.le_of_ble_eq_true rfl), (Nat.le_of_ble_eq_true rfl)⟩, rfl, lk13⟩ ⟨i_blind, fun U hU hW => ⟨rfl, by rw [hU], by rw [hU]; exact hPc, va_K.moved hW.alike hKc, hDc.weaken (fun _ _ _ _ => trivial), hN.warm hW, hAO.1.moved hW.alike, hAO.2.moved hW.alike⟩⟩ rfl rfl hl.1 rfl (lv_room (Nat.le_of_ble_eq_true rfl)) dX10_init_62 ⟨hk23, hk24⟩) hS (fun q _ h => hFc q h) hFc (fun u25 t H1 locs ht hvm hw hB hz1 hk1 hS => ?_)
  obtain ⟨hP1, hK1, hD1⟩ := hB
  rw [ht] at hP1
  have hK1 := va_K.moved hvm.symm hK1
  obtain ⟨hP, hD⟩ := va_join (wr := [(h0, .inr (10, [.ref q1, .ref q5, .ref q9, .int (0 : Int32), .int (0 : Int32), .int (1 : Int32)])), (q1, .inl (cA2, 200, .inl (fun _ => 0))), (q5, .inl (cA2, 12, .inl (fun _ => 0))), (q9, .inl (cA10, 6, .inr (.inr (.inr (.inr (va_up (fun _ => none) 0 (some q13))))))), (q13, .inr (3, [.ref (u18.1 0), .int (0 : Int32), .int (0 : Int32), .int (1 : Int32), .int (4 : Int32)])), ((u18.1 0), .inl (cA2, 16, .inl (fun _ => 0)))]) (w1 := [(q20, .inr (3, [.ref (u25.1 0), .int (0 : Int32), .int (0 : Int32), .int (1 : Int32), .int (4 : Int32)])), ((u25.1 0), .inl ((u25.2 0), 16, .inl (fun _ => 0)))]) hP hD [6] [0, 1, 2, 3, 4, 5] rfl rfl (by decide) (by decide) hk1 hFc hP1 hD1
  have hK := (hK.sub (tys' := [(cA2, .int), (cA10, .object RX3)]) [0, 1] rfl).app hK1
  generalize H1 = H at hP hS ⊢
  have hP := hP.sub (ws' := [(h0, .inr (10, [.ref q1, .ref q5, .ref q9, .int (0 : Int32), .int (0 : Int32), .int (1 : Int32)])), (q1, .inl (cA2, 200, .inl (fun _ => 0))), (q5, .inl (cA2, 12, .inl (fun _ => 0))), (q9, .inl (cA10, 6, .inr (.inr (.inr (.inr (va_up (fun _ => none) 0 (some q13))))))), (q13, .inr (3, [.ref (u18.1 0), .int (0 : Int32), .int (0 : Int32), .int (1 : Int32), .int (4 : Int32)])), ((u18.1 0), .inl (cA2, 16, .inl (fun _ => 0))), (q20, .inr (3, [.ref (u25.1 0), .int (0 : Int32), .int (0 : Int32), .int (1 : Int32), .int (4 : Int32)])), ((u25.1 0), .inl ((u25.2 0), 16, .inl (fun _ => 0)))]) [0, 1, 2, 3, 4, 5, 6, 7] rfl
  have hD := hD.sub (ws' := [(h0, .inr (10, [.ref q1, .ref q5, .ref q9, .int (0 : Int32), .int (0 : Int32), .int (1 : Int32)])), (q1, .inl (cA2, 200, .inl (fun _ => 0))), (q5, .inl (cA2, 12, .inl (fun _ => 0))), (q9, .inl (cA10, 6, .inr (.inr (.inr (.inr (va_up (fun _ => none) 0 (some q13))))))), (q13, .inr (3, [.ref (u18.1 0), .int (0 : Int32), .int (0 : Int32), .int (1 : Int32), .int (4 : Int32)])), ((u18.1 0), .inl (cA2, 16, .inl (fun _ => 0))), (q20, .inr (3, [.ref (u25.1 0), .int (0 : Int32), .int (0 : Int32), .int (1 : Int32), .int (4 : Int32)])), ((u25.1 0), .inl ((u25.2 0), 16, .inl (fun _ => 0)))]) [0, 1, 2, 3, 4, 5, 6, 7] (by decide) rfl
  have hK : va_K D vwCl [(cA2, .int), (cA10, .object RX3), ((u25.2 0), .int)] s := hK
  have eK26 : (u25.2 0) = cA2 := K_same hK 2 0 rfl rfl
  have hK := hK.sub (tys' := [(cA2, .int), (cA10, .object RX3)]) [0, 1] rfl
  rw [eK26] at hP hD
  have hP : va_P D vwCl [(h0, .inr (10, [.ref q1, .ref q5, .ref q9, .int (0 : Int32), .int (0 : Int32), .int (1 : Int32)])), (q1, .inl (cA2, 200, .inl (fun _ => 0))), (q5, .inl (cA2, 12, .inl (fun _ => 0))), (q9, .inl (cA10, 6, .inr (.inr (.inr (.inr (va_up (fun _ => none) 0 (some q13))))))), (q13, .inr (3, [.ref (u18.1 0), .int (0 : Int32), .int (0 : Int32), .int (1 : Int32), .int (4 : Int32)])), ((u18.1 0), .inl (cA2, 16, .inl (fun _ => 0))), (q20, .inr (3, [.ref (u25.1 0), .int (0 : Int32), .int (0 : Int32), .int (1 : Int32), .int (4 : Int32)])), ((u25.1 0), .inl (cA2, 16, .inl (fun _ => 0)))] H := hP
  have hD : va_D A [(h0, .inr (10, [.ref q1, .ref q5, .ref q9, .int (0 : Int32), .int (0 : Int32), .int (1 : Int32)])), (q1, .inl (cA2, 200, .inl (fun _ => 0))), (q5, .inl (cA2, 12, .inl (fun _ => 0))), (q9, .inl (cA10, 6, .inr (.inr (.inr (.inr (va_up (fun _ => none) 0 (some q13))))))), (q13, .inr (3, [.ref (u18.1 0), .int (0 : Int32), .int (0 : Int32), .int (1 : Int32), .int (4 : Int32)])), ((u18.1 0), .inl (cA2, 16, .inl (fun _ => 0))), (q20, .inr (3, [.ref (u25.1 0), .int (0 : Int32), .int (0 : Int32), .int (1 : Int32), .int (4 : Int32)])), ((u25.1 0), .inl (cA2, 16, .inl (fun _ => 0)))] := hD
  refine W.widen (k := 7) (n := 260) (Nat.le_refl _) (Nat.le_of_ble_eq_true rfl) ?_
  refine va_astq (D := D) (r := (RX3, TX3, 5)) hx hb hK hP hD hS 3 1 6 3 rfl rfl rfl rfl (by unfold vp_in; decide) dX10_init_65 (fun H locs hP hD hS => ?_)
  have hP : va_P D vwCl [(h0, .inr (10, [.ref q1, .ref q5, .ref q9, .int (0 : Int32), .int (0 : Int32), .int (1 : Int32)])), (q1, .inl (cA2, 200, .inl (fun _ => 0))), (q5, .inl (cA2, 12, .inl (fun _ => 0))), (q9, .inl (cA10, 6, .inr (.inr (.inr (.inr (va_up (va_up (fun _ => none) 0 (some q13)) 1 (some q20))))))), (q13, .inr (3, [.ref (u18.1 0), .int (0 : Int32), .int (0 : Int32), .int (1 : Int32), .int (4 : Int32)])), ((u18.1 0), .inl (cA2, 16, .inl (fun _ => 0))), (q20, .inr (3, [.ref (u25.1 0), .int (0 : Int32), .int (0 : Int32), .int (1 : Int32), .int (4 : Int32)])), ((u25.1 0), .inl (cA2, 16, .inl (fun _ => 0)))] H := hP
  have hD : va_D A [(h0, .inr (10, [.ref q1, .ref q5, .ref q9, .int (0 : Int32), .int (0 : Int32), .int (1 : Int32)])), (q1, .inl (cA2, 200, .inl (fun _ => 0))), (q5, .inl (cA2, 12, .inl (fun _ => 0))), (q9, .inl (cA10, 6, .inr (.inr (.inr (.inr (va_up (va_up (fun _ => none) 0 (some q13)) 1 (some q20))))))), (q13, .inr (3, [.ref (u18.1 0), .int (0 : Int32), .int (0 : Int32), .int (1 : Int32), .int (4 : Int32)])), ((u18.1 0), .inl (cA2, 16, .inl (fun _ => 0))), (q20, .inr (3, [.ref (u25.1 0), .int (0 : Int32), .int (0 : Int32), .int (1 : Int32), .int (4 : Int32)])), ((u25.1 0), .inl (cA2, 16, .inl (fun _ => 0)))] := hD
  refine lv_iinc (v := 2) (lv' := [(1, .int (2 : Int32)), (0, .ref h0)]) hx hb dX10_init_66 hl (k := 0) rfl (by decide +kernel) (by decide) rfl (fun ls hl => ?_)
  refine lv_goto (tgt := 47) hx hb dX10_init_69 (by decide) ?_
  refine lv_iload_n hx hb dX10_init_47 rfl (lv_at hl 0 rfl) ?_
  refine lv_bipush (v := 6) hx hb dX10_init_48 (by decide +kernel) ?_
  refine lv_icmp_ge (tgt := 72) hx hb dX10_init_50 (by decide) (fun hc => absurd hc (by decide)) (fun hc => ?_)
  refine lv_aload_n hx hb dX10_init_53 rfl (lv_at hl 1 rfl) ?_
  refine va_get (D := D) (ci := 10) (v := .ref q9) (C := RX10) (T := TX10) (N := 6) hx hb hts hiX10 hown hK hP 0 rfl rfl 2 (by decide) lk7 (fun _ h => h) rfl dX10_init_54 ?_
  refine lv_iload_n hx hb dX10_init_57 rfl (lv_at hl 0 rfl) ?_
  have hk28 : 8 ≤ 15 := by decide
  have hk29 : 265 ≤ 344 := Nat.le_of_ble_eq_true rfl
  refine va_new (D := D) (ci := 3) (fs := [.null, .int 0, .int 0, .int 0, .int 0]) (C := RX3) (T := TX3) (N := 5) hx hb hts hiX3 tyX3 tyX3_ok hown lk6 lk11 lk12 hK hP hD hS hA rfl (fun j hj => by rcases (show j = 0 ∨ j = 1 ∨ j = 2 ∨ j = 3 ∨ j = 4 by omega) with rfl | rfl | rfl | rfl | rfl <;> rfl) hk28 hk29 dX10_init_58 (fun q27 H hP hD hS => ?_)
  have hP : va_P D vwCl [(h0, .inr (10, [.ref q1, .ref q5, .ref q9, .int (0 : Int32), .int (0 : Int32), .int (1 : Int32)])), (q1, .inl (cA2, 200, .inl (fun _ => 0))), (q5, .inl (cA2, 12, .inl (fun _ => 0))), (q9, .inl (cA10, 6, .inr (.inr (.inr (.inr (va_up (va_up (fun _ => none) 0 (some q13)) 1 (some q20))))))), (q13, .inr (3, [.ref (u18.1 0), .int (0 : Int32), .int (0 : Int32), .int (1 : Int32), .int (4 : Int32)])), ((u18.1 0), .inl (cA2, 16, .inl (fun _ => 0))), (q20, .inr (3, [.ref (u25.1 0), .int (0 : Int32), .int (0 : Int32), .int (1 : Int32), .int (4 : Int32)])), ((u25.1 0), .inl (cA2, 16, .inl (fun _ => 0))), (q27, .inr (3, [.null, .int 0, .int 0, .int 0, .int 0]))] H := hP
  have hD : va_D A [(h0, .inr (10, [.ref q1, .ref q5, .ref q9, .int (0 : Int32), .int (0 : Int32), .int (1 : Int32)])), (q1, .inl (cA2, 200, .inl (fun _ => 0))), (q5, .inl (cA2, 12, .inl (fun _ => 0))), (q9, .inl (cA10, 6, .inr (.inr (.inr (.inr (va_up (va_up (fun _ => none) 0 (some q13)) 1 (some q20))))))), (q13, .inr (3, [.ref (u18.1 0), .int (0 : Int32), .int (0 : Int32), .int (1 : Int32), .int (4 : Int32)])), ((u18.1 0), .inl (cA2, 16, .inl (fun _ => 0))), (q20, .inr (3, [.ref (u25.1 0), .int (0 : Int32), .int (0 : Int32), .int (1 : Int32), .int (4 : Int32)])), ((u25.1 0), .inl (cA2, 16, .inl (fun _ => 0))), (q27, .inr (3, [.null, .int 0, .int 0, .int 0, .int 0]))] := hD
  refine W.widen (k := 8) (n := 265) (Nat.le_refl _) (Nat.le_of_ble_eq_true rfl) ?_
  refine lv_dup hx hb dX10_init_61 rfl ?_
  have hPc := hP.sub (ws' := [(q27, .inr (3, [.null, .int 0, .int 0, .int 0, .int 0]))]) [8] rfl
  have hDc := hD.sub (ws' := [(q27, .inr (3, [.null, .int 0, .int 0, .int 0, .int 0]))]) [8] (by decide) rfl
  have hKc := hK.sub (tys' := []) [] rfl
  have hFc := va_free (wc := [(q27, .inr (3, [.null, .int 0, .int 0, .int 0, .int 0]))]) hD hS hA [8] rfl
  have hk30 : 9 ≤ 15 := by decide
  have hk31 : 281 ≤ 344 := Nat.le_of_ble_eq_true rfl
  refine va_callv (va_runIN (As := []) (rest := [.ref q27, .int (2 : Int32), .ref q9]) ⟨hx, hb, hml, hown, hts⟩ (c_X3_init l D q27 H.size) ⟨va_cnB 0 hts gX10_init_X3_init_n34 rfl rfl rfl (hN _ (List.mem_of_getElem? (i := 6) rfl)) lk12 (by decide +kernel) ⟨(Nat.le_of_ble_eq_true rfl), (Nat.le_of_ble_eq_true rfl)⟩, rfl, lk13⟩ ⟨i_blind, fun U hU hW => ⟨rfl, by rw [hU], by rw [hU]; exact hPc, va_K.moved hW.alike hKc, hDc.weaken (fun _ _ _ _ => trivial), hN.warm hW, hAO.1.moved hW.alike, hAO.2.moved hW.alike⟩⟩ rfl rfl hl.1 rfl (lv_room (Nat.le_of_ble_eq_true rfl)) dX10_init_62 ⟨hk30, hk31⟩) hS (fun q _ h => hFc q h) hFc (fun u32 t H1 locs ht hvm hw hB hz1 hk1 hS => ?_)
  obtain ⟨hP1, hK1, hD1⟩ := hB
  rw [ht] at hP1
  have hK1 := va_K.moved hvm.symm hK1
  obtain ⟨hP, hD⟩ := va_join (wr := [(h0, .inr (10, [.ref q1, .ref q5, .ref q9, .int (0 : Int32), .int (0 : Int32), .int (1 : Int32)])), (q1, .inl (cA2, 200, .inl (fun _ => 0))), (q5, .inl (cA2, 12, .inl (fun _ => 0))), (q9, .inl (cA10, 6, .inr (.inr (.inr (.inr (va_up (va_up (fun _ => none) 0 (some q13)) 1 (some q20))))))), (q13, .inr (3, [.ref (u18.1 0), .int (0 : Int32), .int (0 : Int32), .int (1 : Int32), .int (4 : Int32)])), ((u18.1 0), .inl (cA2, 16, .inl (fun _ => 0))), (q20, .inr (3, [.ref (u25.1 0), .int (0 : Int32), .int (0 : Int32), .int (1 : Int32), .int (4 : Int32)])), ((u25.1 0), .inl (cA2, 16, .inl (fun _ => 0)))]) (w1 := [(q27, .inr (3, [.ref (u32.1 0), .int (0 : Int32), .int (0 : Int32), .int (1 : Int32), .int (4 : Int32)])), ((u32.1 0), .inl ((u32.2 0), 16, .inl (fun _ => 0)))]) hP hD [8] [0, 1, 2, 3, 4, 5, 6, 7] rfl rfl (by decide) (by decide) hk1 hFc hP1 hD1
  have hK := (hK.sub (tys' := [(cA2, .int), (cA10, .object RX3)]) [0, 1] rfl).app hK1
  generalize H1 = H at hP hS ⊢
  have hP := hP.sub (ws' := [(h0, .inr (10, [.ref q1, .ref q5, .ref q9, .int (0 : Int32), .int (0 : Int32), .int (1 : Int32)])), (q1, .inl (cA2, 200, .inl (fun _ => 0))), (q5, .inl (cA2, 12, .inl (fun _ => 0))), (q9, .inl (cA10, 6, .inr (.inr (.inr (.inr (va_up (va_up (fun _ => none) 0 (some q13)) 1 (some q20))))))), (q13, .inr (3, [.ref (u18.1 0), .int (0 : Int32), .int (0 : Int32), .int (1 : Int32), .int (4 : Int32)])), ((u18.1 0), .inl (cA2, 16, .inl (fun _ => 0))), (q20, .inr (3, [.ref (u25.1 0), .int (0 : Int32), .int (0 : Int32), .int (1 : Int32), .int (4 : Int32)])), ((u25.1 0), .inl (cA2, 16, .inl (fun _ => 0))), (q27, .inr (3, [.ref (u32.1 0), .int (0 : Int32), .int (0 : Int32), .int (1 : Int32), .int (4 : Int32)])), ((u32.1 0), .inl ((u32.2 0), 16, .inl (fun _ => 0)))]) [0, 1, 2, 3, 4, 5, 6, 7, 8, 9] rfl
  have hD := hD.sub (ws' := [(h0, .inr (10, [.ref q1, .ref q5, .ref q9, .int (0 : Int32), .int (0 : Int32), .int (1 : Int32)])), (q1, .inl (cA2, 200, .inl (fun _ => 0))), (q5, .inl (cA2, 12, .inl (fun _ => 0))), (q9, .inl (cA10, 6, .inr (.inr (.inr (.inr (va_up (va_up (fun _ => none) 0 (some q13)) 1 (some q20))))))), (q13, .inr (3, [.ref (u18.1 0), .int (0 : Int32), .int (0 : Int32), .int (1 : Int32), .int (4 : Int32)])), ((u18.1 0), .inl (cA2, 16, .inl (fun _ => 0))), (q20, .inr (3, [.ref (u25.1 0), .int (0 : Int32), .int (0 : Int32), .int (1 : Int32), .int (4 : Int32)])), ((u25.1 0), .inl (cA2, 16, .inl (fun _ => 0))), (q27, .inr (3, [.ref (u32.1 0), .int (0 : Int32), .int (0 : Int32), .int (1 : Int32), .int (4 : Int32)])), ((u32.1 0), .inl ((u32.2 0), 16, .inl (fun _ => 0)))]) [0, 1, 2, 3, 4, 5, 6, 7, 8, 9] (by decide) rfl
  have hK : va_K D vwCl [(cA2, .int), (cA10, .object RX3), ((u32.2 0), .int)] s := hK
  have eK33 : (u32.2 0) = cA2 := K_same hK 2 0 rfl rfl
  have hK := hK.sub (tys' := [(cA2, .int), (cA10, .object RX3)]) [0, 1] rfl
  rw [eK33] at hP hD
  have hP : va_P D vwCl [(h0, .inr (10, [.ref q1, .ref q5, .ref q9, .int (0 : Int32), .int (0 : Int32), .int (1 : Int32)])), (q1, .inl (cA2, 200, .inl (fun _ => 0))), (q5, .inl (cA2, 12, .inl (fun _ => 0))), (q9, .inl (cA10, 6, .inr (.inr (.inr (.inr (va_up (va_up (fun _ => none) 0 (some q13)) 1 (some q20))))))), (q13, .inr (3, [.ref (u18.1 0), .int (0 : Int32), .int (0 : Int32), .int (1 : Int32), .int (4 : Int32)])), ((u18.1 0), .inl (cA2, 16, .inl (fun _ => 0))), (q20, .inr (3, [.ref (u25.1 0), .int (0 : Int32), .int (0 : Int32), .int (1 : Int32), .int (4 : Int32)])), ((u25.1 0), .inl (cA2, 16, .inl (fun _ => 0))), (q27, .inr (3, [.ref (u32.1 0), .int (0 : Int32), .int (0 : Int32), .int (1 : Int32), .int (4 : Int32)])), ((u32.1 0), .inl (cA2, 16, .inl (fun _ => 0)))] H := hP
  have hD : va_D A [(h0, .inr (10, [.ref q1, .ref q5, .ref q9, .int (0 : Int32), .int (0 : Int32), .int (1 : Int32)])), (q1, .inl (cA2, 200, .inl (fun _ => 0))), (q5, .inl (cA2, 12, .inl (fun _ => 0))), (q9, .inl (cA10, 6, .inr (.inr (.inr (.inr (va_up (va_up (fun _ => none) 0 (some q13)) 1 (some q20))))))), (q13, .inr (3, [.ref (u18.1 0), .int (0 : Int32), .int (0 : Int32), .int (1 : Int32), .int (4 : Int32)])), ((u18.1 0), .inl (cA2, 16, .inl (fun _ => 0))), (q20, .inr (3, [.ref (u25.1 0), .int (0 : Int32), .int (0 : Int32), .int (1 : Int32), .int (4 : Int32)])), ((u25.1 0), .inl (cA2, 16, .inl (fun _ => 0))), (q27, .inr (3, [.ref (u32.1 0), .int (0 : Int32), .int (0 : Int32), .int (1 : Int32), .int (4 : Int32)])), ((u32.1 0), .inl (cA2, 16, .inl (fun _ => 0)))] := hD
  refine W.widen (k := 9) (n := 281) (Nat.le_refl _) (Nat.le_of_ble_eq_true rfl) ?_
  refine va_astq (D := D) (r := (RX3, TX3, 5)) hx hb hK hP hD hS 3 1 8 3 rfl rfl rfl rfl (by unfold vp_in; decide) dX10_init_65 (fun H locs hP hD hS => ?_)
  have hP : va_P D vwCl [(h0, .inr (10, [.ref q1, .ref q5, .ref q9, .int (0 : Int32), .int (0 : Int32), .int (1 : Int32)])), (q1, .inl (cA2, 200, .inl (fun _ => 0))), (q5, .inl (cA2, 12, .inl (fun _ => 0))), (q9, .inl (cA10, 6, .inr (.inr (.inr (.inr (va_up (va_up (va_up (fun _ => none) 0 (some q13)) 1 (some q20)) 2 (some q27))))))), (q13, .inr (3, [.ref (u18.1 0), .int (0 : Int32), .int (0 : Int32), .int (1 : Int32), .int (4 : Int32)])), ((u18.1 0), .inl (cA2, 16, .inl (fun _ => 0))), (q20, .inr (3, [.ref (u25.1 0), .int (0 : Int32), .int (0 : Int32), .int (1 : Int32), .int (4 : Int32)])), ((u25.1 0), .inl (cA2, 16, .inl (fun _ => 0))), (q27, .inr (3, [.ref (u32.1 0), .int (0 : Int32), .int (0 : Int32), .int (1 : Int32), .int (4 : Int32)])), ((u32.1 0), .inl (cA2, 16, .inl (fun _ => 0)))] H := hP
  have hD : va_D A [(h0, .inr (10, [.ref q1, .ref q5, .ref q9, .int (0 : Int32), .int (0 : Int32), .int (1 : Int32)])), (q1, .inl (cA2, 200, .inl (fun _ => 0))), (q5, .inl (cA2, 12, .inl (fun _ => 0))), (q9, .inl (cA10, 6, .inr (.inr (.inr (.inr (va_up (va_up (va_up (fun _ => none) 0 (some q13)) 1 (some q20)) 2 (some q27))))))), (q13, .inr (3, [.ref (u18.1 0), .int (0 : Int32), .int (0 : Int32), .int (1 : Int32), .int (4 : Int32)])), ((u18.1 0), .inl (cA2, 16, .inl (fun _ => 0))), (q20, .inr (3, [.ref (u25.1 0), .int (0 : Int32), .int (0 : Int32), .int (1 : Int32), .int (4 : Int32)])), ((u25.1 0), .inl (cA2, 16, .inl (fun _ => 0))), (q27, .inr (3, [.ref (u32.1 0), .int (0 : Int32), .int (0 : Int32), .int (1 : Int32), .int (4 : Int32)])), ((u32.1 0), .inl (cA2, 16, .inl (fun _ => 0)))] := hD
  refine lv_iinc (v := 3) (lv' := [(1, .int (3 : Int32)), (0, .ref h0)]) hx hb dX10_init_66 hl (k := 0) rfl (by decide +kernel) (by decide) rfl (fun ls hl => ?_)
  refine lv_goto (tgt := 47) hx hb dX10_init_69 (by decide) ?_
  refine lv_iload_n hx hb dX10_init_47 rfl (lv_at hl 0 rfl) ?_
  refine lv_bipush (v := 6) hx hb dX10_init_48 (by decide +kernel) ?_
  refine lv_icmp_ge (tgt := 72) hx hb dX10_init_50 (by decide) (fun hc => absurd hc (by decide)) (fun hc => ?_)
  refine lv_aload_n hx hb dX10_init_53 rfl (lv_at hl 1 rfl) ?_
  refine va_get (D := D) (ci := 10) (v := .ref q9) (C := RX10) (T := TX10) (N := 6) hx hb hts hiX10 hown hK hP 0 rfl rfl 2 (by decide) lk7 (fun _ h => h) rfl dX10_init_54 ?_
  refine lv_iload_n hx hb dX10_init_57 rfl (lv_at hl 0 rfl) ?_
  have hk35 : 10 ≤ 15 := by decide
  have hk36 : 286 ≤ 344 := Nat.le_of_ble_eq_true rfl
  refine va_new (D := D) (ci := 3) (fs := [.null, .int 0, .int 0, .int 0, .int 0]) (C := RX3) (T := TX3) (N := 5) hx hb hts hiX3 tyX3 tyX3_ok hown lk6 lk11 lk12 hK hP hD hS hA rfl (fun j hj => by rcases (show j = 0 ∨ j = 1 ∨ j = 2 ∨ j = 3 ∨ j = 4 by omega) with rfl | rfl | rfl | rfl | rfl <;> rfl) hk35 hk36 dX10_init_58 (fun q34 H hP hD hS => ?_)
  have hP : va_P D vwCl [(h0, .inr (10, [.ref q1, .ref q5, .ref q9, .int (0 : Int32), .int (0 : Int32), .int (1 : Int32)])), (q1, .inl (cA2, 200, .inl (fun _ => 0))), (q5, .inl (cA2, 12, .inl (fun _ => 0))), (q9, .inl (cA10, 6, .inr (.inr (.inr (.inr (va_up (va_up (va_up (fun _ => none) 0 (some q13)) 1 (some q20)) 2 (some q27))))))), (q13, .inr (3, [.ref (u18.1 0), .int (0 : Int32), .int (0 : Int32), .int (1 : Int32), .int (4 : Int32)])), ((u18.1 0), .inl (cA2, 16, .inl (fun _ => 0))), (q20, .inr (3, [.ref (u25.1 0), .int (0 : Int32), .int (0 : Int32), .int (1 : Int32), .int (4 : Int32)])), ((u25.1 0), .inl (cA2, 16, .inl (fun _ => 0))), (q27, .inr (3, [.ref (u32.1 0), .int (0 : Int32), .int (0 : Int32), .int (1 : Int32), .int (4 : Int32)])), ((u32.1 0), .inl (cA2, 16, .inl (fun _ => 0))), (q34, .inr (3, [.null, .int 0, .int 0, .int 0, .int 0]))] H := hP
  have hD : va_D A [(h0, .inr (10, [.ref q1, .ref q5, .ref q9, .int (0 : Int32), .int (0 : Int32), .int (1 : Int32)])), (q1, .inl (cA2, 200, .inl (fun _ => 0))), (q5, .inl (cA2, 12, .inl (fun _ => 0))), (q9, .inl (cA10, 6, .inr (.inr (.inr (.inr (va_up (va_up (va_up (fun _ => none) 0 (some q13)) 1 (some q20)) 2 (some q27))))))), (q13, .inr (3, [.ref (u18.1 0), .int (0 : Int32), .int (0 : Int32), .int (1 : Int32), .int (4 : Int32)])), ((u18.1 0), .inl (cA2, 16, .inl (fun _ => 0))), (q20, .inr (3, [.ref (u25.1 0), .int (0 : Int32), .int (0 : Int32), .int (1 : Int32), .int (4 : Int32)])), ((u25.1 0), .inl (cA2, 16, .inl (fun _ => 0))), (q27, .inr (3, [.ref (u32.1 0), .int (0 : Int32), .int (0 : Int32), .int (1 : Int32), .int (4 : Int32)])), ((u32.1 0), .inl (cA2, 16, .inl (fun _ => 0))), (q34, .inr (3, [.null, .int 0, .int 0, .int 0, .int 0]))] := hD
  refine W.widen (k := 10) (n := 286) (Nat.le_refl _) (Nat.le_of_ble_eq_true rfl) ?_
  refine lv_dup hx hb dX10_init_61 rfl ?_
  have hPc := hP.sub (ws' := [(q34, .inr (3, [.null, .int 0, .int 0, .int 0, .int 0]))]) [10] rfl
  have hDc := hD.sub (ws' := [(q34, .inr (3, [.null, .int 0, .int 0, .int 0, .int 0]))]) [10] (by decide) rfl
  have hKc := hK.sub (tys' := []) [] rfl
  have hFc := va_free (wc := [(q34, .inr (3, [.null, .int 0, .int 0, .int 0, .int 0]))]) hD hS hA [10] rfl
  have hk37 : 11 ≤ 15 := by decide
  have hk38 : 302 ≤ 344 := Nat.le_of_ble_eq_true rfl
  refine va_callv (va_runIN (As := []) (rest := [.ref q34, .int (3 : Int32), .ref q9]) ⟨hx, hb, hml, hown, hts⟩ (c_X3_init l D q34 H.size) ⟨va_cnB 0 hts gX10_init_X3_init_n34 rfl rfl rfl (hN _ (List.mem_of_getElem? (i := 6) rfl)) lk12 (by decide +kernel) ⟨(Nat.le_of_ble_eq_true rfl), (Nat.le_of_ble_eq_true rfl)⟩, rfl, lk13⟩ ⟨i_blind, fun U hU hW => ⟨rfl, by rw [hU], by rw [hU]; exact hPc, va_K.moved hW.alike hKc, hDc.weaken (fun _ _ _ _ => trivial), hN.warm hW, hAO.1.moved hW.alike, hAO.2.moved hW.alike⟩⟩ rfl rfl hl.1 rfl (lv_room (Nat.le_of_ble_eq_true rfl)) dX10_init_62 ⟨hk37, hk38⟩) hS (fun q _ h => hFc q h) hFc (fun u39 t H1 locs ht hvm hw hB hz1 hk1 hS => ?_)
  obtain ⟨hP1, hK1, hD1⟩ := hB
  rw [ht] at hP1
  have hK1 := va_K.moved hvm.symm hK1
  obtain ⟨hP, hD⟩ := va_join (wr := [(h0, .inr (10, [.ref q1, .ref q5, .ref q9, .int (0 : Int32), .int (0 : Int32), .int (1 : Int32)])), (q1, .inl (cA2, 200, .inl (fun _ => 0))), (q5, .inl (cA2, 12, .inl (fun _ => 0))), (q9, .inl (cA10, 6, .inr (.inr (.inr (.inr (va_up (va_up (va_up (fun _ => none) 0 (some q13)) 1 (some q20)) 2 (some q27))))))), (q13, .inr (3, [.ref (u18.1 0), .int (0 : Int32), .int (0 : Int32), .int (1 : Int32), .int (4 : Int32)])), ((u18.1 0), .inl (cA2, 16, .inl (fun _ => 0))), (q20, .inr (3, [.ref (u25.1 0), .int (0 : Int32), .int (0 : Int32), .int (1 : Int32), .int (4 : Int32)])), ((u25.1 0), .inl (cA2, 16, .inl (fun _ => 0))), (q27, .inr (3, [.ref (u32.1 0), .int (0 : Int32), .int (0 : Int32), .int (1 : Int32), .int (4 : Int32)])), ((u32.1 0), .inl (cA2, 16, .inl (fun _ => 0)))]) (w1 := [(q34, .inr (3, [.ref (u39.1 0), .int (0 : Int32), .int (0 : Int32), .int (1 : Int32), .int (4 : Int32)])), ((u39.1 0), .inl ((u39.2 0), 16, .inl (fun _ => 0)))]) hP hD [10] [0, 1, 2, 3, 4, 5, 6, 7, 8, 9] rfl rfl (by decide) (by decide) hk1 hFc hP1 hD1
  have hK := (hK.sub (tys' := [(cA2, .int), (cA10, .object RX3)]) [0, 1] rfl).app hK1
  generalize H1 = H at hP hS ⊢
  have hP := hP.sub (ws' := [(h0, .inr (10, [.ref q1, .ref q5, .ref q9, .int (0 : Int32), .int (0 : Int32), .int (1 : Int32)])), (q1, .inl (cA2, 200, .inl (fun _ => 0))), (q5, .inl (cA2, 12, .inl (fun _ => 0))), (q9, .inl (cA10, 6, .inr (.inr (.inr (.inr (va_up (va_up (va_up (fun _ => none) 0 (some q13)) 1 (some q20)) 2 (some q27))))))), (q13, .inr (3, [.ref (u18.1 0), .int (0 : Int32), .int (0 : Int32), .int (1 : Int32), .int (4 : Int32)])), ((u18.1 0), .inl (cA2, 16, .inl (fun _ => 0))), (q20, .inr (3, [.ref (u25.1 0), .int (0 : Int32), .int (0 : Int32), .int (1 : Int32), .int (4 : Int32)])), ((u25.1 0), .inl (cA2, 16, .inl (fun _ => 0))), (q27, .inr (3, [.ref (u32.1 0), .int (0 : Int32), .int (0 : Int32), .int (1 : Int32), .int (4 : Int32)])), ((u32.1 0), .inl (cA2, 16, .inl (fun _ => 0))), (q34, .inr (3, [.ref (u39.1 0), .int (0 : Int32), .int (0 : Int32), .int (1 : Int32), .int (4 : Int32)])), ((u39.1 0), .inl ((u39.2 0), 16, .inl (fun _ => 0)))]) [0, 1, 2, 3, 4, 5, 6, 7, 8, 9, 10, 11] rfl
  have hD := hD.sub (ws' := [(h0, .inr (10, [.ref q1, .ref q5, .ref q9, .int (0 : Int32), .int (0 : Int32), .int (1 : Int32)])), (q1, .inl (cA2, 200, .inl (fun _ => 0))), (q5, .inl (cA2, 12, .inl (fun _ => 0))), (q9, .inl (cA10, 6, .inr (.inr (.inr (.inr (va_up (va_up (va_up (fun _ => none) 0 (some q13)) 1 (some q20)) 2 (some q27))))))), (q13, .inr (3, [.ref (u18.1 0), .int (0 : Int32), .int (0 : Int32), .int (1 : Int32), .int (4 : Int32)])), ((u18.1 0), .inl (cA2, 16, .inl (fun _ => 0))), (q20, .inr (3, [.ref (u25.1 0), .int (0 : Int32), .int (0 : Int32), .int (1 : Int32), .int (4 : Int32)])), ((u25.1 0), .inl (cA2, 16, .inl (fun _ => 0))), (q27, .inr (3, [.ref (u32.1 0), .int (0 : Int32), .int (0 : Int32), .int (1 : Int32), .int (4 : Int32)])), ((u32.1 0), .inl (cA2, 16, .inl (fun _ => 0))), (q34, .inr (3, [.ref (u39.1 0), .int (0 : Int32), .int (0 : Int32), .int (1 : Int32), .int (4 : Int32)])), ((u39.1 0), .inl ((u39.2 0), 16, .inl (fun _ => 0)))]) [0, 1, 2, 3, 4, 5, 6, 7, 8, 9, 10, 11] (by decide) rfl
  have hK : va_K D vwCl [(cA2, .int), (cA10, .object RX3), ((u39.2 0), .int)] s := hK
  have eK40 : (u39.2 0) = cA2 := K_same hK 2 0 rfl rfl
  have hK := hK.sub (tys' := [(cA2, .int), (cA10, .object RX3)]) [0, 1] rfl
  rw [eK40] at hP hD
  have hP : va_P D vwCl [(h0, .inr (10, [.ref q1, .ref q5, .ref q9, .int (0 : Int32), .int (0 : Int32), .int (1 : Int32)])), (q1, .inl (cA2, 200, .inl (fun _ => 0))), (q5, .inl (cA2, 12, .inl (fun _ => 0))), (q9, .inl (cA10, 6, .inr (.inr (.inr (.inr (va_up (va_up (va_up (fun _ => none) 0 (some q13)) 1 (some q20)) 2 (some q27))))))), (q13, .inr (3, [.ref (u18.1 0), .int (0 : Int32), .int (0 : Int32), .int (1 : Int32), .int (4 : Int32)])), ((u18.1 0), .inl (cA2, 16, .inl (fun _ => 0))), (q20, .inr (3, [.ref (u25.1 0), .int (0 : Int32), .int (0 : Int32), .int (1 : Int32), .int (4 : Int32)])), ((u25.1 0), .inl (cA2, 16, .inl (fun _ => 0))), (q27, .inr (3, [.ref (u32.1 0), .int (0 : Int32), .int (0 : Int32), .int (1 : Int32), .int (4 : Int32)])), ((u32.1 0), .inl (cA2, 16, .inl (fun _ => 0))), (q34, .inr (3, [.ref (u39.1 0), .int (0 : Int32), .int (0 : Int32), .int (1 : Int32), .int (4 : Int32)])), ((u39.1 0), .inl (cA2, 16, .inl (fun _ => 0)))] H := hP
  have hD : va_D A [(h0, .inr (10, [.ref q1, .ref q5, .ref q9, .int (0 : Int32), .int (0 : Int32), .int (1 : Int32)])), (q1, .inl (cA2, 200, .inl (fun _ => 0))), (q5, .inl (cA2, 12, .inl (fun _ => 0))), (q9, .inl (cA10, 6, .inr (.inr (.inr (.inr (va_up (va_up (va_up (fun _ => none) 0 (some q13)) 1 (some q20)) 2 (some q27))))))), (q13, .inr (3, [.ref (u18.1 0), .int (0 : Int32), .int (0 : Int32), .int (1 : Int32), .int (4 : Int32)])), ((u18.1 0), .inl (cA2, 16, .inl (fun _ => 0))), (q20, .inr (3, [.ref (u25.1 0), .int (0 : Int32), .int (0 : Int32), .int (1 : Int32), .int (4 : Int32)])), ((u25.1 0), .inl (cA2, 16, .inl (fun _ => 0))), (q27, .inr (3, [.ref (u32.1 0), .int (0 : Int32), .int (0 : Int32), .int (1 : Int32), .int (4 : Int32)])), ((u32.1 0), .inl (cA2, 16, .inl (fun _ => 0))), (q34, .inr (3, [.ref (u39.1 0), .int (0 : Int32), .int (0 : Int32), .int (1 : Int32), .int (4 : Int32)])), ((u39.1 0), .inl (cA2, 16, .inl (fun _ => 0)))] := hD
  refine W.widen (k := 11) (n := 302) (Nat.le_refl _) (Nat.le_of_ble_eq_true rfl) ?_
  refine va_astq (D := D) (r := (RX3, TX3, 5)) hx hb hK hP hD hS 3 1 10 3 rfl rfl rfl rfl (by unfold vp_in; decide) dX10_init_65 (fun H locs hP hD hS => ?_)
  have hP : va_P D vwCl [(h0, .inr (10, [.ref q1, .ref q5, .ref q9, .int (0 : Int32), .int (0 : Int32), .int (1 : Int32)])), (q1, .inl (cA2, 200, .inl (fun _ => 0))), (q5, .inl (cA2, 12, .inl (fun _ => 0))), (q9, .inl (cA10, 6, .inr (.inr (.inr (.inr (va_up (va_up (va_up (va_up (fun _ => none) 0 (some q13)) 1 (some q20)) 2 (some q27)) 3 (some q34))))))), (q13, .inr (3, [.ref (u18.1 0), .int (0 : Int32), .int (0 : Int32), .int (1 : Int32), .int (4 : Int32)])), ((u18.1 0), .inl (cA2, 16, .inl (fun _ => 0))), (q20, .inr (3, [.ref (u25.1 0), .int (0 : Int32), .int (0 : Int32), .int (1 : Int32), .int (4 : Int32)])), ((u25.1 0), .inl (cA2, 16, .inl (fun _ => 0))), (q27, .inr (3, [.ref (u32.1 0), .int (0 : Int32), .int (0 : Int32), .int (1 : Int32), .int (4 : Int32)])), ((u32.1 0), .inl (cA2, 16, .inl (fun _ => 0))), (q34, .inr (3, [.ref (u39.1 0), .int (0 : Int32), .int (0 : Int32), .int (1 : Int32), .int (4 : Int32)])), ((u39.1 0), .inl (cA2, 16, .inl (fun _ => 0)))] H := hP
  have hD : va_D A [(h0, .inr (10, [.ref q1, .ref q5, .ref q9, .int (0 : Int32), .int (0 : Int32), .int (1 : Int32)])), (q1, .inl (cA2, 200, .inl (fun _ => 0))), (q5, .inl (cA2, 12, .inl (fun _ => 0))), (q9, .inl (cA10, 6, .inr (.inr (.inr (.inr (va_up (va_up (va_up (va_up (fun _ => none) 0 (some q13)) 1 (some q20)) 2 (some q27)) 3 (some q34))))))), (q13, .inr (3, [.ref (u18.1 0), .int (0 : Int32), .int (0 : Int32), .int (1 : Int32), .int (4 : Int32)])), ((u18.1 0), .inl (cA2, 16, .inl (fun _ => 0))), (q20, .inr (3, [.ref (u25.1 0), .int (0 : Int32), .int (0 : Int32), .int (1 : Int32), .int (4 : Int32)])), ((u25.1 0), .inl (cA2, 16, .inl (fun _ => 0))), (q27, .inr (3, [.ref (u32.1 0), .int (0 : Int32), .int (0 : Int32), .int (1 : Int32), .int (4 : Int32)])), ((u32.1 0), .inl (cA2, 16, .inl (fun _ => 0))), (q34, .inr (3, [.ref (u39.1 0), .int (0 : Int32), .int (0 : Int32), .int (1 : Int32), .int (4 : Int32)])), ((u39.1 0), .inl (cA2, 16, .inl (fun _ => 0)))] := hD
  refine lv_iinc (v := 4) (lv' := [(1, .int (4 : Int32)), (0, .ref h0)]) hx hb dX10_init_66 hl (k := 0) rfl (by decide +kernel) (by decide) rfl (fun ls hl => ?_)
  refine lv_goto (tgt := 47) hx hb dX10_init_69 (by decide) ?_
  refine lv_iload_n hx hb dX10_init_47 rfl (lv_at hl 0 rfl) ?_
  refine lv_bipush (v := 6) hx hb dX10_init_48 (by decide +kernel) ?_
  refine lv_icmp_ge (tgt := 72) hx hb dX10_init_50 (by decide) (fun hc => absurd hc (by decide)) (fun hc => ?_)
  refine lv_aload_n hx hb dX10_init_53 rfl (lv_at hl 1 rfl) ?_
  refine va_get (D := D) (ci := 10) (v := .ref q9) (C := RX10) (T := TX10) (N := 6) hx hb hts hiX10 hown hK hP 0 rfl rfl 2 (by decide) lk7 (fun _ h => h) rfl dX10_init_54 ?_
  refine lv_iload_n hx hb dX10_init_57 rfl (lv_at hl 0 rfl) ?_
  have hk42 : 12 ≤ 15 := by decide
  have hk43 : 307 ≤ 344 := Nat.le_of_ble_eq_true rfl
  refine va_new (D := D) (ci := 3) (fs := [.null, .int 0, .int 0, .int 0, .int 0]) (C := RX3) (T := TX3) (N := 5) hx hb hts hiX3 tyX3 tyX3_ok hown lk6 lk11 lk12 hK hP hD hS hA rfl (fun j hj => by rcases (show j = 0 ∨ j = 1 ∨ j = 2 ∨ j = 3 ∨ j = 4 by omega) with rfl | rfl | rfl | rfl | rfl <;> rfl) hk42 hk43 dX10_init_58 (fun q41 H hP hD hS => ?_)
  have hP : va_P D vwCl [(h0, .inr (10, [.ref q1, .ref q5, .ref q9, .int (0 : Int32), .int (0 : Int32), .int (1 : Int32)])), (q1, .inl (cA2, 200, .inl (fun _ => 0))), (q5, .inl (cA2, 12, .inl (fun _ => 0))), (q9, .inl (cA10, 6, .inr (.inr (.inr (.inr (va_up (va_up (va_up (va_up (fun _ => none) 0 (some q13)) 1 (some q20)) 2 (some q27)) 3 (some q34))))))), (q13, .inr (3, [.ref (u18.1 0), .int (0 : Int32), .int (0 : Int32), .int (1 : Int32), .int (4 : Int32)])), ((u18.1 0), .inl (cA2, 16, .inl (fun _ => 0))), (q20, .inr (3, [.ref (u25.1 0), .int (0 : Int32), .int (0 : Int32), .int (1 : Int32), .int (4 : Int32)])), ((u25.1 0), .inl (cA2, 16, .inl (fun _ => 0))), (q27, .inr (3, [.ref (u32.1 0), .int (0 : Int32), .int (0 : Int32), .int (1 : Int32), .int (4 : Int32)])), ((u32.1 0), .inl (cA2, 16, .inl (fun _ => 0))), (q34, .inr (3, [.ref (u39.1 0), .int (0 : Int32), .int (0 : Int32), .int (1 : Int32), .int (4 : Int32)])), ((u39.1 0), .inl (cA2, 16, .inl (fun _ => 0))), (q41, .inr (3, [.null, .int 0, .int 0, .int 0, .int 0]))] H := hP
  have hD : va_D A [(h0, .inr (10, [.ref q1, .ref q5, .ref q9, .int (0 : Int32), .int (0 : Int32), .int (1 : Int32)])), (q1, .inl (cA2, 200, .inl (fun _ => 0))), (q5, .inl (cA2, 12, .inl (fun _ => 0))), (q9, .inl (cA10, 6, .inr (.inr (.inr (.inr (va_up (va_up (va_up (va_up (fun _ => none) 0 (some q13)) 1 (some q20)) 2 (some q27)) 3 (some q34))))))), (q13, .inr (3, [.ref (u18.1 0), .int (0 : Int32), .int (0 : Int32), .int (1 : Int32), .int (4 : Int32)])), ((u18.1 0), .inl (cA2, 16, .inl (fun _ => 0))), (q20, .inr (3, [.ref (u25.1 0), .int (0 : Int32), .int (0 : Int32), .int (1 : Int32), .int (4 : Int32)])), ((u25.1 0), .inl (cA2, 16, .inl (fun _ => 0))), (q27, .inr (3, [.ref (u32.1 0), .int (0 : Int32), .int (0 : Int32), .int (1 : Int32), .int (4 : Int32)])), ((u32.1 0), .inl (cA2, 16, .inl (fun _ => 0))), (q34, .inr (3, [.ref (u39.1 0), .int (0 : Int32), .int (0 : Int32), .int (1 : Int32), .int (4 : Int32)])), ((u39.1 0), .inl (cA2, 16, .inl (fun _ => 0))), (q41, .inr (3, [.null, .int 0, .int 0, .int 0, .int 0]))] := hD
  refine W.widen (k := 12) (n := 307) (Nat.le_refl _) (Nat.le_of_ble_eq_true rfl) ?_
  refine lv_dup hx hb dX10_init_61 rfl ?_
  have hPc := hP.sub (ws' := [(q41, .inr (3, [.null, .int 0, .int 0, .int 0, .int 0]))]) [12] rfl
  have hDc := hD.sub (ws' := [(q41, .inr (3, [.null, .int 0, .int 0, .int 0, .int 0]))]) [12] (by decide) rfl
  have hKc := hK.sub (tys' := []) [] rfl
  have hFc := va_free (wc := [(q41, .inr (3, [.null, .int 0, .int 0, .int 0, .int 0]))]) hD hS hA [12] rfl
  have hk44 : 13 ≤ 15 := by decide
  have hk45 : 323 ≤ 344 := Nat.le_of_ble_eq_true rfl
  refine va_callv (va_runIN (As := []) (rest := [.ref q41, .int (4 : Int32), .ref q9]) ⟨hx, hb, hml, hown, hts⟩ (c_X3_init l D q41 H.size) ⟨va_cnB 0 hts gX10_init_X3_init_n34 rfl rfl rfl (hN _ (List.mem_of_getElem? (i := 6) rfl)) lk12 (by decide +kernel) ⟨(Nat.le_of_ble_eq_true rfl), (Nat.le_of_ble_eq_true rfl)⟩, rfl, lk13⟩ ⟨i_blind, fun U hU hW => ⟨rfl, by rw [hU], by rw [hU]; exact hPc, va_K.moved hW.alike hKc, hDc.weaken (fun _ _ _ _ => trivial), hN.warm hW, hAO.1.moved hW.alike, hAO.2.moved hW.alike⟩⟩ rfl rfl hl.1 rfl (lv_room (Nat.le_of_ble_eq_true rfl)) dX10_init_62 ⟨hk44, hk45⟩) hS (fun q _ h => hFc q h) hFc (fun u46 t H1 locs ht hvm hw hB hz1 hk1 hS => ?_)
  obtain ⟨hP1, hK1, hD1⟩ := hB
  rw [ht] at hP1
  have hK1 := va_K.moved hvm.symm hK1
  obtain ⟨hP, hD⟩ := va_join (wr := [(h0, .inr (10, [.ref q1, .ref q5, .ref q9, .int (0 : Int32), .int (0 : Int32), .int (1 : Int32)])), (q1, .inl (cA2, 200, .inl (fun _ => 0))), (q5, .inl (cA2, 12, .inl (fun _ => 0))), (q9, .inl (cA10, 6, .inr (.inr (.inr (.inr (va_up (va_up (va_up (va_up (fun _ => none) 0 (some q13)) 1 (some q20)) 2 (some q27)) 3 (some q34))))))), (q13, .inr (3, [.ref (u18.1 0), .int (0 : Int32), .int (0 : Int32), .int (1 : Int32), .int (4 : Int32)])), ((u18.1 0), .inl (cA2, 16, .inl (fun _ => 0))), (q20, .inr (3, [.ref (u25.1 0), .int (0 : Int32), .int (0 : Int32), .int (1 : Int32), .int (4 : Int32)])), ((u25.1 0), .inl (cA2, 16, .inl (fun _ => 0))), (q27, .inr (3, [.ref (u32.1 0), .int (0 : Int32), .int (0 : Int32), .int (1 : Int32), .int (4 : Int32)])), ((u32.1 0), .inl (cA2, 16, .inl (fun _ => 0))), (q34, .inr (3, [.ref (u39.1 0), .int (0 : Int32), .int (0 : Int32), .int (1 : Int32), .int (4 : Int32)])), ((u39.1 0), .inl (cA2, 16, .inl (fun _ => 0)))]) (w1 := [(q41, .inr (3, [.ref (u46.1 0), .int (0 : Int32), .int (0 : Int32), .int (1 : Int32), .int (4 : Int32)])), ((u46.1 0), .inl ((u46.2 0), 16, .inl (fun _ => 0)))]) hP hD [12] [0, 1, 2, 3, 4, 5, 6, 7, 8, 9, 10, 11] rfl rfl (by decide) (by decide) hk1 hFc hP1 hD1
  have hK := (hK.sub (tys' := [(cA2, .int), (cA10, .object RX3)]) [0, 1] rfl).app hK1
  generalize H1 = H at hP hS ⊢
  have hP := hP.sub (ws' := [(h0, .inr (10, [.ref q1, .ref q5, .ref q9, .int (0 : Int32), .int (0 : Int32), .int (1 : Int32)])), (q1, .inl (cA2, 200, .inl (fun _ => 0))), (q5, .inl (cA2, 12, .inl (fun _ => 0))), (q9, .inl (cA10, 6, .inr (.inr (.inr (.inr (va_up (va_up (va_up (va_up (fun _ => none) 0 (some q13)) 1 (some q20)) 2 (some q27)) 3 (some q34))))))), (q13, .inr (3, [.ref (u18.1 0), .int (0 : Int32), .int (0 : Int32), .int (1 : Int32), .int (4 : Int32)])), ((u18.1 0), .inl (cA2, 16, .inl (fun _ => 0))), (q20, .inr (3, [.ref (u25.1 0), .int (0 : Int32), .int (0 : Int32), .int (1 : Int32), .int (4 : Int32)])), ((u25.1 0), .inl (cA2, 16, .inl (fun _ => 0))), (q27, .inr (3, [.ref (u32.1 0), .int (0 : Int32), .int (0 : Int32), .int (1 : Int32), .int (4 : Int32)])), ((u32.1 0), .inl (cA2, 16, .inl (fun _ => 0))), (q34, .inr (3, [.ref (u39.1 0), .int (0 : Int32), .int (0 : Int32), .int (1 : Int32), .int (4 : Int32)])), ((u39.1 0), .inl (cA2, 16, .inl (fun _ => 0))), (q41, .inr (3, [.ref (u46.1 0), .int (0 : Int32), .int (0 : Int32), .int (1 : Int32), .int (4 : Int32)])), ((u46.1 0), .inl ((u46.2 0), 16, .inl (fun _ => 0)))]) [0, 1, 2, 3, 4, 5, 6, 7, 8, 9, 10, 11, 12, 13] rfl
  have hD := hD.sub (ws' := [(h0, .inr (10, [.ref q1, .ref q5, .ref q9, .int (0 : Int32), .int (0 : Int32), .int (1 : Int32)])), (q1, .inl (cA2, 200, .inl (fun _ => 0))), (q5, .inl (cA2, 12, .inl (fun _ => 0))), (q9, .inl (cA10, 6, .inr (.inr (.inr (.inr (va_up (va_up (va_up (va_up (fun _ => none) 0 (some q13)) 1 (some q20)) 2 (some q27)) 3 (some q34))))))), (q13, .inr (3, [.ref (u18.1 0), .int (0 : Int32), .int (0 : Int32), .int (1 : Int32), .int (4 : Int32)])), ((u18.1 0), .inl (cA2, 16, .inl (fun _ => 0))), (q20, .inr (3, [.ref (u25.1 0), .int (0 : Int32), .int (0 : Int32), .int (1 : Int32), .int (4 : Int32)])), ((u25.1 0), .inl (cA2, 16, .inl (fun _ => 0))), (q27, .inr (3, [.ref (u32.1 0), .int (0 : Int32), .int (0 : Int32), .int (1 : Int32), .int (4 : Int32)])), ((u32.1 0), .inl (cA2, 16, .inl (fun _ => 0))), (q34, .inr (3, [.ref (u39.1 0), .int (0 : Int32), .int (0 : Int32), .int (1 : Int32), .int (4 : Int32)])), ((u39.1 0), .inl (cA2, 16, .inl (fun _ => 0))), (q41, .inr (3, [.ref (u46.1 0), .int (0 : Int32), .int (0 : Int32), .int (1 : Int32), .int (4 : Int32)])), ((u46.1 0), .inl ((u46.2 0), 16, .inl (fun _ => 0)))]) [0, 1, 2, 3, 4, 5, 6, 7, 8, 9, 10, 11, 12, 13] (by decide) rfl
  have hK : va_K D vwCl [(cA2, .int), (cA10, .object RX3), ((u46.2 0), .int)] s := hK
  have eK47 : (u46.2 0) = cA2 := K_same hK 2 0 rfl rfl
  have hK := hK.sub (tys' := [(cA2, .int), (cA10, .object RX3)]) [0, 1] rfl
  rw [eK47] at hP hD
  have hP : va_P D vwCl [(h0, .inr (10, [.ref q1, .ref q5, .ref q9, .int (0 : Int32), .int (0 : Int32), .int (1 : Int32)])), (q1, .inl (cA2, 200, .inl (fun _ => 0))), (q5, .inl (cA2, 12, .inl (fun _ => 0))), (q9, .inl (cA10, 6, .inr (.inr (.inr (.inr (va_up (va_up (va_up (va_up (fun _ => none) 0 (some q13)) 1 (some q20)) 2 (some q27)) 3 (some q34))))))), (q13, .inr (3, [.ref (u18.1 0), .int (0 : Int32), .int (0 : Int32), .int (1 : Int32), .int (4 : Int32)])), ((u18.1 0), .inl (cA2, 16, .inl (fun _ => 0))), (q20, .inr (3, [.ref (u25.1 0), .int (0 : Int32), .int (0 : Int32), .int (1 : Int32), .int (4 : Int32)])), ((u25.1 0), .inl (cA2, 16, .inl (fun _ => 0))), (q27, .inr (3, [.ref (u32.1 0), .int (0 : Int32), .int (0 : Int32), .int (1 : Int32), .int (4 : Int32)])), ((u32.1 0), .inl (cA2, 16, .inl (fun _ => 0))), (q34, .inr (3, [.ref (u39.1 0), .int (0 : Int32), .int (0 : Int32), .int (1 : Int32), .int (4 : Int32)])), ((u39.1 0), .inl (cA2, 16, .inl (fun _ => 0))), (q41, .inr (3, [.ref (u46.1 0), .int (0 : Int32), .int (0 : Int32), .int (1 : Int32), .int (4 : Int32)])), ((u46.1 0), .inl (cA2, 16, .inl (fun _ => 0)))] H := hP
  have hD : va_D A [(h0, .inr (10, [.ref q1, .ref q5, .ref q9, .int (0 : Int32), .int (0 : Int32), .int (1 : Int32)])), (q1, .inl (cA2, 200, .inl (fun _ => 0))), (q5, .inl (cA2, 12, .inl (fun _ => 0))), (q9, .inl (cA10, 6, .inr (.inr (.inr (.inr (va_up (va_up (va_up (va_up (fun _ => none) 0 (some q13)) 1 (some q20)) 2 (some q27)) 3 (some q34))))))), (q13, .inr (3, [.ref (u18.1 0), .int (0 : Int32), .int (0 : Int32), .int (1 : Int32), .int (4 : Int32)])), ((u18.1 0), .inl (cA2, 16, .inl (fun _ => 0))), (q20, .inr (3, [.ref (u25.1 0), .int (0 : Int32), .int (0 : Int32), .int (1 : Int32), .int (4 : Int32)])), ((u25.1 0), .inl (cA2, 16, .inl (fun _ => 0))), (q27, .inr (3, [.ref (u32.1 0), .int (0 : Int32), .int (0 : Int32), .int (1 : Int32), .int (4 : Int32)])), ((u32.1 0), .inl (cA2, 16, .inl (fun _ => 0))), (q34, .inr (3, [.ref (u39.1 0), .int (0 : Int32), .int (0 : Int32), .int (1 : Int32), .int (4 : Int32)])), ((u39.1 0), .inl (cA2, 16, .inl (fun _ => 0))), (q41, .inr (3, [.ref (u46.1 0), .int (0 : Int32), .int (0 : Int32), .int (1 : Int32), .int (4 : Int32)])), ((u46.1 0), .inl (cA2, 16, .inl (fun _ => 0)))] := hD
  refine W.widen (k := 13) (n := 323) (Nat.le_refl _) (Nat.le_of_ble_eq_true rfl) ?_
  refine va_astq (D := D) (r := (RX3, TX3, 5)) hx hb hK hP hD hS 3 1 12 3 rfl rfl rfl rfl (by unfold vp_in; decide) dX10_init_65 (fun H locs hP hD hS => ?_)
  have hP : va_P D vwCl [(h0, .inr (10, [.ref q1, .ref q5, .ref q9, .int (0 : Int32), .int (0 : Int32), .int (1 : Int32)])), (q1, .inl (cA2, 200, .inl (fun _ => 0))), (q5, .inl (cA2, 12, .inl (fun _ => 0))), (q9, .inl (cA10, 6, .inr (.inr (.inr (.inr (va_up (va_up (va_up (va_up (va_up (fun _ => none) 0 (some q13)) 1 (some q20)) 2 (some q27)) 3 (some q34)) 4 (some q41))))))), (q13, .inr (3, [.ref (u18.1 0), .int (0 : Int32), .int (0 : Int32), .int (1 : Int32), .int (4 : Int32)])), ((u18.1 0), .inl (cA2, 16, .inl (fun _ => 0))), (q20, .inr (3, [.ref (u25.1 0), .int (0 : Int32), .int (0 : Int32), .int (1 : Int32), .int (4 : Int32)])), ((u25.1 0), .inl (cA2, 16, .inl (fun _ => 0))), (q27, .inr (3, [.ref (u32.1 0), .int (0 : Int32), .int (0 : Int32), .int (1 : Int32), .int (4 : Int32)])), ((u32.1 0), .inl (cA2, 16, .inl (fun _ => 0))), (q34, .inr (3, [.ref (u39.1 0), .int (0 : Int32), .int (0 : Int32), .int (1 : Int32), .int (4 : Int32)])), ((u39.1 0), .inl (cA2, 16, .inl (fun _ => 0))), (q41, .inr (3, [.ref (u46.1 0), .int (0 : Int32), .int (0 : Int32), .int (1 : Int32), .int (4 : Int32)])), ((u46.1 0), .inl (cA2, 16, .inl (fun _ => 0)))] H := hP
  have hD : va_D A [(h0, .inr (10, [.ref q1, .ref q5, .ref q9, .int (0 : Int32), .int (0 : Int32), .int (1 : Int32)])), (q1, .inl (cA2, 200, .inl (fun _ => 0))), (q5, .inl (cA2, 12, .inl (fun _ => 0))), (q9, .inl (cA10, 6, .inr (.inr (.inr (.inr (va_up (va_up (va_up (va_up (va_up (fun _ => none) 0 (some q13)) 1 (some q20)) 2 (some q27)) 3 (some q34)) 4 (some q41))))))), (q13, .inr (3, [.ref (u18.1 0), .int (0 : Int32), .int (0 : Int32), .int (1 : Int32), .int (4 : Int32)])), ((u18.1 0), .inl (cA2, 16, .inl (fun _ => 0))), (q20, .inr (3, [.ref (u25.1 0), .int (0 : Int32), .int (0 : Int32), .int (1 : Int32), .int (4 : Int32)])), ((u25.1 0), .inl (cA2, 16, .inl (fun _ => 0))), (q27, .inr (3, [.ref (u32.1 0), .int (0 : Int32), .int (0 : Int32), .int (1 : Int32), .int (4 : Int32)])), ((u32.1 0), .inl (cA2, 16, .inl (fun _ => 0))), (q34, .inr (3, [.ref (u39.1 0), .int (0 : Int32), .int (0 : Int32), .int (1 : Int32), .int (4 : Int32)])), ((u39.1 0), .inl (cA2, 16, .inl (fun _ => 0))), (q41, .inr (3, [.ref (u46.1 0), .int (0 : Int32), .int (0 : Int32), .int (1 : Int32), .int (4 : Int32)])), ((u46.1 0), .inl (cA2, 16, .inl (fun _ => 0)))] := hD
  refine lv_iinc (v := 5) (lv' := [(1, .int (5 : Int32)), (0, .ref h0)]) hx hb dX10_init_66 hl (k := 0) rfl (by decide +kernel) (by decide) rfl (fun ls hl => ?_)
  refine lv_goto (tgt := 47) hx hb dX10_init_69 (by decide) ?_
  refine lv_iload_n hx hb dX10_init_47 rfl (lv_at hl 0 rfl) ?_
  refine lv_bipush (v := 6) hx hb dX10_init_48 (by decide +kernel) ?_
  refine lv_icmp_ge (tgt := 72) hx hb dX10_init_50 (by decide) (fun hc => absurd hc (by decide)) (fun hc => ?_)
  refine lv_aload_n hx hb dX10_init_53 rfl (lv_at hl 1 rfl) ?_
  refine va_get (D := D) (ci := 10) (v := .ref q9) (C := RX10) (T := TX10) (N := 6) hx hb hts hiX10 hown hK hP 0 rfl rfl 2 (by decide) lk7 (fun _ h => h) rfl dX10_init_54 ?_
  refine lv_iload_n hx hb dX10_init_57 rfl (lv_at hl 0 rfl) ?_
  have hk49 : 14 ≤ 15 := by decide
  have hk50 : 328 ≤ 344 := Nat.le_of_ble_eq_true rfl
  refine va_new (D := D) (ci := 3) (fs := [.null, .int 0, .int 0, .int 0, .int 0]) (C := RX3) (T := TX3) (N := 5) hx hb hts hiX3 tyX3 tyX3_ok hown lk6 lk11 lk12 hK hP hD hS hA rfl (fun j hj => by rcases (show j = 0 ∨ j = 1 ∨ j = 2 ∨ j = 3 ∨ j = 4 by omega) with rfl | rfl | rfl | rfl | rfl <;> rfl) hk49 hk50 dX10_init_58 (fun q48 H hP hD hS => ?_)
  have hP : va_P D vwCl [(h0, .inr (10, [.ref q1, .ref q5, .ref q9, .int (0 : Int32), .int (0 : Int32), .int (1 : Int32)])), (q1, .inl (cA2, 200, .inl (fun _ => 0))), (q5, .inl (cA2, 12, .inl (fun _ => 0))), (q9, .inl (cA10, 6, .inr (.inr (.inr (.inr (va_up (va_up (va_up (va_up (va_up (fun _ => none) 0 (some q13)) 1 (some q20)) 2 (some q27)) 3 (some q34)) 4 (some q41))))))), (q13, .inr (3, [.ref (u18.1 0), .int (0 : Int32), .int (0 : Int32), .int (1 : Int32), .int (4 : Int32)])), ((u18.1 0), .inl (cA2, 16, .inl (fun _ => 0))), (q20, .inr (3, [.ref (u25.1 0), .int (0 : Int32), .int (0 : Int32), .int (1 : Int32), .int (4 : Int32)])), ((u25.1 0), .inl (cA2, 16, .inl (fun _ => 0))), (q27, .inr (3, [.ref (u32.1 0), .int (0 : Int32), .int (0 : Int32), .int (1 : Int32), .int (4 : Int32)])), ((u32.1 0), .inl (cA2, 16, .inl (fun _ => 0))), (q34, .inr (3, [.ref (u39.1 0), .int (0 : Int32), .int (0 : Int32), .int (1 : Int32), .int (4 : Int32)])), ((u39.1 0), .inl (cA2, 16, .inl (fun _ => 0))), (q41, .inr (3, [.ref (u46.1 0), .int (0 : Int32), .int (0 : Int32), .int (1 : Int32), .int (4 : Int32)])), ((u46.1 0), .inl (cA2, 16, .inl (fun _ => 0))), (q48, .inr (3, [.null, .int 0, .int 0, .int 0, .int 0]))] H := hP
  have hD : va_D A [(h0, .inr (10, [.ref q1, .ref q5, .ref q9, .int (0 : Int32), .int (0 : Int32), .int (1 : Int32)])), (q1, .inl (cA2, 200, .inl (fun _ => 0))), (q5, .inl (cA2, 12, .inl (fun _ => 0))), (q9, .inl (cA10, 6, .inr (.inr (.inr (.inr (va_up (va_up (va_up (va_up (va_up (fun _ => none) 0 (some q13)) 1 (some q20)) 2 (some q27)) 3 (some q34)) 4 (some q41))))))), (q13, .inr (3, [.ref (u18.1 0), .int (0 : Int32), .int (0 : Int32), .int (1 : Int32), .int (4 : Int32)])), ((u18.1 0), .inl (cA2, 16, .inl (fun _ => 0))), (q20, .inr (3, [.ref (u25.1 0), .int (0 : Int32), .int (0 : Int32), .int (1 : Int32), .int (4 : Int32)])), ((u25.1 0), .inl (cA2, 16, .inl (fun _ => 0))), (q27, .inr (3, [.ref (u32.1 0), .int (0 : Int32), .int (0 : Int32), .int (1 : Int32), .int (4 : Int32)])), ((u32.1 0), .inl (cA2, 16, .inl (fun _ => 0))), (q34, .inr (3, [.ref (u39.1 0), .int (0 : Int32), .int (0 : Int32), .int (1 : Int32), .int (4 : Int32)])), ((u39.1 0), .inl (cA2, 16, .inl (fun _ => 0))), (q41, .inr (3, [.ref (u46.1 0), .int (0 : Int32), .int (0 : Int32), .int (1 : Int32), .int (4 : Int32)])), ((u46.1 0), .inl (cA2, 16, .inl (fun _ => 0))), (q48, .inr (3, [.null, .int 0, .int 0, .int 0, .int 0]))] := hD
  refine W.widen (k := 14) (n := 328) (Nat.le_refl _) (Nat.le_of_ble_eq_true rfl) ?_
  refine lv_dup hx hb dX10_init_61 rfl ?_
  have hPc := hP.sub (ws' := [(q48, .inr (3, [.null, .int 0, .int 0, .int 0, .int 0]))]) [14] rfl
  have hDc := hD.sub (ws' := [(q48, .inr (3, [.null, .int 0, .int 0, .int 0, .int 0]))]) [14] (by decide) rfl
  have hKc := hK.sub (tys' := []) [] rfl
  have hFc := va_free (wc := [(q48, .inr (3, [.null, .int 0, .int 0, .int 0, .int 0]))]) hD hS hA [14] rfl
  have hk51 : 15 ≤ 15 := by decide
  have hk52 : 344 ≤ 344 := Nat.le_of_ble_eq_true rfl
  refine va_callv (va_runIN (As := []) (rest := [.ref q48, .int (5 : Int32), .ref q9]) ⟨hx, hb, hml, hown, hts⟩ (c_X3_init l D q48 H.size) ⟨va_cnB 0 hts gX10_init_X3_init_n34 rfl rfl rfl (hN _ (List.mem_of_getElem? (i := 6) rfl)) lk12 (by decide +kernel) ⟨(Nat.le_of_ble_eq_true rfl), (Nat.le_of_ble_eq_true rfl)⟩, rfl, lk13⟩ ⟨i_blind, fun U hU hW => ⟨rfl, by rw [hU], by rw [hU]; exact hPc, va_K.moved hW.alike hKc, hDc.weaken (fun _ _ _ _ => trivial), hN.warm hW, hAO.1.moved hW.alike, hAO.2.moved hW.alike⟩⟩ rfl rfl hl.1 rfl (lv_room (Nat.le_of_ble_eq_true rfl)) dX10_init_62 ⟨hk51, hk52⟩) hS (fun q _ h => hFc q h) hFc (fun u53 t H1 locs ht hvm hw hB hz1 hk1 hS => ?_)
  obtain ⟨hP1, hK1, hD1⟩ := hB
  rw [ht] at hP1
  have hK1 := va_K.moved hvm.symm hK1
  obtain ⟨hP, hD⟩ := va_join (wr := [(h0, .inr (10, [.ref q1, .ref q5, .ref q9, .int (0 : Int32), .int (0 : Int32), .int (1 : Int32)])), (q1, .inl (cA2, 200, .inl (fun _ => 0))), (q5, .inl (cA2, 12, .inl (fun _ => 0))), (q9, .inl (cA10, 6, .inr (.inr (.inr (.inr (va_up (va_up (va_up (va_up (va_up (fun _ => none) 0 (some q13)) 1 (some q20)) 2 (some q27)) 3 (some q34)) 4 (some q41))))))), (q13, .inr (3, [.ref (u18.1 0), .int (0 : Int32), .int (0 : Int32), .int (1 : Int32), .int (4 : Int32)])), ((u18.1 0), .inl (cA2, 16, .inl (fun _ => 0))), (q20, .inr (3, [.ref (u25.1 0), .int (0 : Int32), .int (0 : Int32), .int (1 : Int32), .int (4 : Int32)])), ((u25.1 0), .inl (cA2, 16, .inl (fun _ => 0))), (q27, .inr (3, [.ref (u32.1 0), .int (0 : Int32), .int (0 : Int32), .int (1 : Int32), .int (4 : Int32)])), ((u32.1 0), .inl (cA2, 16, .inl (fun _ => 0))), (q34, .inr (3, [.ref (u39.1 0), .int (0 : Int32), .int (0 : Int32), .int (1 : Int32), .int (4 : Int32)])), ((u39.1 0), .inl (cA2, 16, .inl (fun _ => 0))), (q41, .inr (3, [.ref (u46.1 0), .int (0 : Int32), .int (0 : Int32), .int (1 : Int32), .int (4 : Int32)])), ((u46.1 0), .inl (cA2, 16, .inl (fun _ => 0)))]) (w1 := [(q48, .inr (3, [.ref (u53.1 0), .int (0 : Int32), .int (0 : Int32), .int (1 : Int32), .int (4 : Int32)])), ((u53.1 0), .inl ((u53.2 0), 16, .inl (fun _ => 0)))]) hP hD [14] [0, 1, 2, 3, 4, 5, 6, 7, 8, 9, 10, 11, 12, 13] rfl rfl (by decide) (by decide) hk1 hFc hP1 hD1
  have hK := (hK.sub (tys' := [(cA2, .int), (cA10, .object RX3)]) [0, 1] rfl).app hK1
  generalize H1 = H at hP hS ⊢
  have hP := hP.sub (ws' := [(h0, .inr (10, [.ref q1, .ref q5, .ref q9, .int (0 : Int32), .int (0 : Int32), .int (1 : Int32)])), (q1, .inl (cA2, 200, .inl (fun _ => 0))), (q5, .inl (cA2, 12, .inl (fun _ => 0))), (q9, .inl (cA10, 6, .inr (.inr (.inr (.inr (va_up (va_up (va_up (va_up (va_up (fun _ => none) 0 (some q13)) 1 (some q20)) 2 (some q27)) 3 (some q34)) 4 (some q41))))))), (q13, .inr (3, [.ref (u18.1 0), .int (0 : Int32), .int (0 : Int32), .int (1 : Int32), .int (4 : Int32)])), ((u18.1 0), .inl (cA2, 16, .inl (fun _ => 0))), (q20, .inr (3, [.ref (u25.1 0), .int (0 : Int32), .int (0 : Int32), .int (1 : Int32), .int (4 : Int32)])), ((u25.1 0), .inl (cA2, 16, .inl (fun _ => 0))), (q27, .inr (3, [.ref (u32.1 0), .int (0 : Int32), .int (0 : Int32), .int (1 : Int32), .int (4 : Int32)])), ((u32.1 0), .inl (cA2, 16, .inl (fun _ => 0))), (q34, .inr (3, [.ref (u39.1 0), .int (0 : Int32), .int (0 : Int32), .int (1 : Int32), .int (4 : Int32)])), ((u39.1 0), .inl (cA2, 16, .inl (fun _ => 0))), (q41, .inr (3, [.ref (u46.1 0), .int (0 : Int32), .int (0 : Int32), .int (1 : Int32), .int (4 : Int32)])), ((u46.1 0), .inl (cA2, 16, .inl (fun _ => 0))), (q48, .inr (3, [.ref (u53.1 0), .int (0 : Int32), .int (0 : Int32), .int (1 : Int32), .int (4 : Int32)])), ((u53.1 0), .inl ((u53.2 0), 16, .inl (fun _ => 0)))]) [0, 1, 2, 3, 4, 5, 6, 7, 8, 9, 10, 11, 12, 13, 14, 15] rfl
  have hD := hD.sub (ws' := [(h0, .inr (10, [.ref q1, .ref q5, .ref q9, .int (0 : Int32), .int (0 : Int32), .int (1 : Int32)])), (q1, .inl (cA2, 200, .inl (fun _ => 0))), (q5, .inl (cA2, 12, .inl (fun _ => 0))), (q9, .inl (cA10, 6, .inr (.inr (.inr (.inr (va_up (va_up (va_up (va_up (va_up (fun _ => none) 0 (some q13)) 1 (some q20)) 2 (some q27)) 3 (some q34)) 4 (some q41))))))), (q13, .inr (3, [.ref (u18.1 0), .int (0 : Int32), .int (0 : Int32), .int (1 : Int32), .int (4 : Int32)])), ((u18.1 0), .inl (cA2, 16, .inl (fun _ => 0))), (q20, .inr (3, [.ref (u25.1 0), .int (0 : Int32), .int (0 : Int32), .int (1 : Int32), .int (4 : Int32)])), ((u25.1 0), .inl (cA2, 16, .inl (fun _ => 0))), (q27, .inr (3, [.ref (u32.1 0), .int (0 : Int32), .int (0 : Int32), .int (1 : Int32), .int (4 : Int32)])), ((u32.1 0), .inl (cA2, 16, .inl (fun _ => 0))), (q34, .inr (3, [.ref (u39.1 0), .int (0 : Int32), .int (0 : Int32), .int (1 : Int32), .int (4 : Int32)])), ((u39.1 0), .inl (cA2, 16, .inl (fun _ => 0))), (q41, .inr (3, [.ref (u46.1 0), .int (0 : Int32), .int (0 : Int32), .int (1 : Int32), .int (4 : Int32)])), ((u46.1 0), .inl (cA2, 16, .inl (fun _ => 0))), (q48, .inr (3, [.ref (u53.1 0), .int (0 : Int32), .int (0 : Int32), .int (1 : Int32), .int (4 : Int32)])), ((u53.1 0), .inl ((u53.2 0), 16, .inl (fun _ => 0)))]) [0, 1, 2, 3, 4, 5, 6, 7, 8, 9, 10, 11, 12, 13, 14, 15] (by decide) rfl
  have hK : va_K D vwCl [(cA2, .int), (cA10, .object RX3), ((u53.2 0), .int)] s := hK
  have eK54 : (u53.2 0) = cA2 := K_same hK 2 0 rfl rfl
  have hK := hK.sub (tys' := [(cA2, .int), (cA10, .object RX3)]) [0, 1] rfl
  rw [eK54] at hP hD
  have hP : va_P D vwCl [(h0, .inr (10, [.ref q1, .ref q5, .ref q9, .int (0 : Int32), .int (0 : Int32), .int (1 : Int32)])), (q1, .inl (cA2, 200, .inl (fun _ => 0))), (q5, .inl (cA2, 12, .inl (fun _ => 0))), (q9, .inl (cA10, 6, .inr (.inr (.inr (.inr (va_up (va_up (va_up (va_up (va_up (fun _ => none) 0 (some q13)) 1 (some q20)) 2 (some q27)) 3 (some q34)) 4 (some q41))))))), (q13, .inr (3, [.ref (u18.1 0), .int (0 : Int32), .int (0 : Int32), .int (1 : Int32), .int (4 : Int32)])), ((u18.1 0), .inl (cA2, 16, .inl (fun _ => 0))), (q20, .inr (3, [.ref (u25.1 0), .int (0 : Int32), .int (0 : Int32), .int (1 : Int32), .int (4 : Int32)])), ((u25.1 0), .inl (cA2, 16, .inl (fun _ => 0))), (q27, .inr (3, [.ref (u32.1 0), .int (0 : Int32), .int (0 : Int32), .int (1 : Int32), .int (4 : Int32)])), ((u32.1 0), .inl (cA2, 16, .inl (fun _ => 0))), (q34, .inr (3, [.ref (u39.1 0), .int (0 : Int32), .int (0 : Int32), .int (1 : Int32), .int (4 : Int32)])), ((u39.1 0), .inl (cA2, 16, .inl (fun _ => 0))), (q41, .inr (3, [.ref (u46.1 0), .int (0 : Int32), .int (0 : Int32), .int (1 : Int32), .int (4 : Int32)])), ((u46.1 0), .inl (cA2, 16, .inl (fun _ => 0))), (q48, .inr (3, [.ref (u53.1 0), .int (0 : Int32), .int (0 : Int32), .int (1 : Int32), .int (4 : Int32)])), ((u53.1 0), .inl (cA2, 16, .inl (fun _ => 0)))] H := hP
  have hD : va_D A [(h0, .inr (10, [.ref q1, .ref q5, .ref q9, .int (0 : Int32), .int (0 : Int32), .int (1 : Int32)])), (q1, .inl (cA2, 200, .inl (fun _ => 0))), (q5, .inl (cA2, 12, .inl (fun _ => 0))), (q9, .inl (cA10, 6, .inr (.inr (.inr (.inr (va_up (va_up (va_up (va_up (va_up (fun _ => none) 0 (some q13)) 1 (some q20)) 2 (some q27)) 3 (some q34)) 4 (some q41))))))), (q13, .inr (3, [.ref (u18.1 0), .int (0 : Int32), .int (0 : Int32), .int (1 : Int32), .int (4 : Int32)])), ((u18.1 0), .inl (cA2, 16, .inl (fun _ => 0))), (q20, .inr (3, [.ref (u25.1 0), .int (0 : Int32), .int (0 : Int32), .int (1 : Int32), .int (4 : Int32)])), ((u25.1 0), .inl (cA2, 16, .inl (fun _ => 0))), (q27, .inr (3, [.ref (u32.1 0), .int (0 : Int32), .int (0 : Int32), .int (1 : Int32), .int (4 : Int32)])), ((u32.1 0), .inl (cA2, 16, .inl (fun _ => 0))), (q34, .inr (3, [.ref (u39.1 0), .int (0 : Int32), .int (0 : Int32), .int (1 : Int32), .int (4 : Int32)])), ((u39.1 0), .inl (cA2, 16, .inl (fun _ => 0))), (q41, .inr (3, [.ref (u46.1 0), .int (0 : Int32), .int (0 : Int32), .int (1 : Int32), .int (4 : Int32)])), ((u46.1 0), .inl (cA2, 16, .inl (fun _ => 0))), (q48, .inr (3, [.ref (u53.1 0), .int (0 : Int32), .int (0 : Int32), .int (1 : Int32), .int (4 : Int32)])), ((u53.1 0), .inl (cA2, 16, .inl (fun _ => 0)))] := hD
  refine W.widen (k := 15) (n := 344) (Nat.le_refl _) (Nat.le_of_ble_eq_true rfl) ?_
  refine va_astq (D := D) (r := (RX3, TX3, 5)) hx hb hK hP hD hS 3 1 14 3 rfl rfl rfl rfl (by unfold vp_in; decide) dX10_init_65 (fun H locs hP hD hS => ?_)
  have hP : va_P D vwCl [(h0, .inr (10, [.ref q1, .ref q5, .ref q9, .int (0 : Int32), .int (0 : Int32), .int (1 : Int32)])), (q1, .inl (cA2, 200, .inl (fun _ => 0))), (q5, .inl (cA2, 12, .inl (fun _ => 0))), (q9, .inl (cA10, 6, .inr (.inr (.inr (.inr (va_up (va_up (va_up (va_up (va_up (va_up (fun _ => none) 0 (some q13)) 1 (some q20)) 2 (some q27)) 3 (some q34)) 4 (some q41)) 5 (some q48))))))), (q13, .inr (3, [.ref (u18.1 0), .int (0 : Int32), .int (0 : Int32), .int (1 : Int32), .int (4 : Int32)])), ((u18.1 0), .inl (cA2, 16, .inl (fun _ => 0))), (q20, .inr (3, [.ref (u25.1 0), .int (0 : Int32), .int (0 : Int32), .int (1 : Int32), .int (4 : Int32)])), ((u25.1 0), .inl (cA2, 16, .inl (fun _ => 0))), (q27, .inr (3, [.ref (u32.1 0), .int (0 : Int32), .int (0 : Int32), .int (1 : Int32), .int (4 : Int32)])), ((u32.1 0), .inl (cA2, 16, .inl (fun _ => 0))), (q34, .inr (3, [.ref (u39.1 0), .int (0 : Int32), .int (0 : Int32), .int (1 : Int32), .int (4 : Int32)])), ((u39.1 0), .inl (cA2, 16, .inl (fun _ => 0))), (q41, .inr (3, [.ref (u46.1 0), .int (0 : Int32), .int (0 : Int32), .int (1 : Int32), .int (4 : Int32)])), ((u46.1 0), .inl (cA2, 16, .inl (fun _ => 0))), (q48, .inr (3, [.ref (u53.1 0), .int (0 : Int32), .int (0 : Int32), .int (1 : Int32), .int (4 : Int32)])), ((u53.1 0), .inl (cA2, 16, .inl (fun _ => 0)))] H := hP
  have hD : va_D A [(h0, .inr (10, [.ref q1, .ref q5, .ref q9, .int (0 : Int32), .int (0 : Int32), .int (1 : Int32)])), (q1, .inl (cA2, 200, .inl (fun _ => 0))), (q5, .inl (cA2, 12, .inl (fun _ => 0))), (q9, .inl (cA10, 6, .inr (.inr (.inr (.inr (va_up (va_up (va_up (va_up (va_up (va_up (fun _ => none) 0 (some q13)) 1 (some q20)) 2 (some q27)) 3 (some q34)) 4 (some q41)) 5 (some q48))))))), (q13, .inr (3, [.ref (u18.1 0), .int (0 : Int32), .int (0 : Int32), .int (1 : Int32), .int (4 : Int32)])), ((u18.1 0), .inl (cA2, 16, .inl (fun _ => 0))), (q20, .inr (3, [.ref (u25.1 0), .int (0 : Int32), .int (0 : Int32), .int (1 : Int32), .int (4 : Int32)])), ((u25.1 0), .inl (cA2, 16, .inl (fun _ => 0))), (q27, .inr (3, [.ref (u32.1 0), .int (0 : Int32), .int (0 : Int32), .int (1 : Int32), .int (4 : Int32)])), ((u32.1 0), .inl (cA2, 16, .inl (fun _ => 0))), (q34, .inr (3, [.ref (u39.1 0), .int (0 : Int32), .int (0 : Int32), .int (1 : Int32), .int (4 : Int32)])), ((u39.1 0), .inl (cA2, 16, .inl (fun _ => 0))), (q41, .inr (3, [.ref (u46.1 0), .int (0 : Int32), .int (0 : Int32), .int (1 : Int32), .int (4 : Int32)])), ((u46.1 0), .inl (cA2, 16, .inl (fun _ => 0))), (q48, .inr (3, [.ref (u53.1 0), .int (0 : Int32), .int (0 : Int32), .int (1 : Int32), .int (4 : Int32)])), ((u53.1 0), .inl (cA2, 16, .inl (fun _ => 0)))] := hD
  refine lv_iinc (v := 6) (lv' := [(1, .int (6 : Int32)), (0, .ref h0)]) hx hb dX10_init_66 hl (k := 0) rfl (by decide +kernel) (by decide) rfl (fun ls hl => ?_)
  refine lv_goto (tgt := 47) hx hb dX10_init_69 (by decide) ?_
  refine lv_iload_n hx hb dX10_init_47 rfl (lv_at hl 0 rfl) ?_
  refine lv_bipush (v := 6) hx hb dX10_init_48 (by decide +kernel) ?_
  refine lv_icmp_ge (tgt := 72) hx hb dX10_init_50 (by decide) (fun hc => ?_) (fun hc => absurd (by decide) hc)
  refine lv_iconst (v := 0) hx hb dX10_init_72 (by decide +kernel) ?_
  refine lv_istore_n (lv' := [(1, .int (0 : Int32)), (0, .ref h0)]) hx hb dX10_init_73 rfl hl (by decide) rfl (fun ls hl => ?_)
  refine lv_iload_n hx hb dX10_init_74 rfl (lv_at hl 0 rfl) ?_
  refine lv_bipush (v := 12) hx hb dX10_init_75 (by decide +kernel) ?_
  refine lv_icmp_ge (tgt := 93) hx hb dX10_init_77 (by decide) (fun hc => absurd hc (by decide)) (fun hc => ?_)
  refine lv_aload_n hx hb dX10_init_80 rfl (lv_at hl 1 rfl) ?_
  refine va_get (D := D) (ci := 10) (v := .ref q5) (C := RX10) (T := TX10) (N := 6) hx hb hts hiX10 hown hK hP 0 rfl rfl 1 (by decide) lk5 (fun _ h => h) rfl dX10_init_81 ?_
  refine lv_iload_n hx hb dX10_init_84 rfl (lv_at hl 0 rfl) ?_
  refine lv_iconst (v := 1) hx hb dX10_init_85 (by decide +kernel) ?_
  refine va_iast (D := D) hx hb hK hP hD hS 2 0 rfl rfl (by unfold vp_in; decide) dX10_init_86 (fun H locs hP hD hS => ?_)
  have hP : va_P D vwCl [(h0, .inr (10, [.ref q1, .ref q5, .ref q9, .int (0 : Int32), .int (0 : Int32), .int (1 : Int32)])), (q1, .inl (cA2, 200, .inl (fun _ => 0))), (q5, .inl (cA2, 12, .inl (upd (fun _ => 0) 0 (1 : Int32)))), (q9, .inl (cA10, 6, .inr (.inr (.inr (.inr (va_up (va_up (va_up (va_up (va_up (va_up (fun _ => none) 0 (some q13)) 1 (some q20)) 2 (some q27)) 3 (some q34)) 4 (some q41)) 5 (some q48))))))), (q13, .inr (3, [.ref (u18.1 0), .int (0 : Int32), .int (0 : Int32), .int (1 : Int32), .int (4 : Int32)])), ((u18.1 0), .inl (cA2, 16, .inl (fun _ => 0))), (q20, .inr (3, [.ref (u25.1 0), .int (0 : Int32), .int (0 : Int32), .int (1 : Int32), .int (4 : Int32)])), ((u25.1 0), .inl (cA2, 16, .inl (fun _ => 0))), (q27, .inr (3, [.ref (u32.1 0), .int (0 : Int32), .int (0 : Int32), .int (1 : Int32), .int (4 : Int32)])), ((u32.1 0), .inl (cA2, 16, .inl (fun _ => 0))), (q34, .inr (3, [.ref (u39.1 0), .int (0 : Int32), .int (0 : Int32), .int (1 : Int32), .int (4 : Int32)])), ((u39.1 0), .inl (cA2, 16, .inl (fun _ => 0))), (q41, .inr (3, [.ref (u46.1 0), .int (0 : Int32), .int (0 : Int32), .int (1 : Int32), .int (4 : Int32)])), ((u46.1 0), .inl (cA2, 16, .inl (fun _ => 0))), (q48, .inr (3, [.ref (u53.1 0), .int (0 : Int32), .int (0 : Int32), .int (1 : Int32), .int (4 : Int32)])), ((u53.1 0), .inl (cA2, 16, .inl (fun _ => 0)))] H := hP
  have hD : va_D A [(h0, .inr (10, [.ref q1, .ref q5, .ref q9, .int (0 : Int32), .int (0 : Int32), .int (1 : Int32)])), (q1, .inl (cA2, 200, .inl (fun _ => 0))), (q5, .inl (cA2, 12, .inl (upd (fun _ => 0) 0 (1 : Int32)))), (q9, .inl (cA10, 6, .inr (.inr (.inr (.inr (va_up (va_up (va_up (va_up (va_up (va_up (fun _ => none) 0 (some q13)) 1 (some q20)) 2 (some q27)) 3 (some q34)) 4 (some q41)) 5 (some q48))))))), (q13, .inr (3, [.ref (u18.1 0), .int (0 : Int32), .int (0 : Int32), .int (1 : Int32), .int (4 : Int32)])), ((u18.1 0), .inl (cA2, 16, .inl (fun _ => 0))), (q20, .inr (3, [.ref (u25.1 0), .int (0 : Int32), .int (0 : Int32), .int (1 : Int32), .int (4 : Int32)])), ((u25.1 0), .inl (cA2, 16, .inl (fun _ => 0))), (q27, .inr (3, [.ref (u32.1 0), .int (0 : Int32), .int (0 : Int32), .int (1 : Int32), .int (4 : Int32)])), ((u32.1 0), .inl (cA2, 16, .inl (fun _ => 0))), (q34, .inr (3, [.ref (u39.1 0), .int (0 : Int32), .int (0 : Int32), .int (1 : Int32), .int (4 : Int32)])), ((u39.1 0), .inl (cA2, 16, .inl (fun _ => 0))), (q41, .inr (3, [.ref (u46.1 0), .int (0 : Int32), .int (0 : Int32), .int (1 : Int32), .int (4 : Int32)])), ((u46.1 0), .inl (cA2, 16, .inl (fun _ => 0))), (q48, .inr (3, [.ref (u53.1 0), .int (0 : Int32), .int (0 : Int32), .int (1 : Int32), .int (4 : Int32)])), ((u53.1 0), .inl (cA2, 16, .inl (fun _ => 0)))] := hD
  refine lv_iinc (v := 1) (lv' := [(1, .int (1 : Int32)), (0, .ref h0)]) hx hb dX10_init_87 hl (k := 0) rfl (by decide +kernel) (by decide) rfl (fun ls hl => ?_)
  refine lv_goto (tgt := 74) hx hb dX10_init_90 (by decide) ?_
  refine lv_iload_n hx hb dX10_init_74 rfl (lv_at hl 0 rfl) ?_
  refine lv_bipush (v := 12) hx hb dX10_init_75 (by decide +kernel) ?_
  refine lv_icmp_ge (tgt := 93) hx hb dX10_init_77 (by decide) (fun hc => absurd hc (by decide)) (fun hc => ?_)
  refine lv_aload_n hx hb dX10_init_80 rfl (lv_at hl 1 rfl) ?_
  refine va_get (D := D) (ci := 10) (v := .ref q5) (C := RX10) (T := TX10) (N := 6) hx hb hts hiX10 hown hK hP 0 rfl rfl 1 (by decide) lk5 (fun _ h => h) rfl dX10_init_81 ?_
  refine lv_iload_n hx hb dX10_init_84 rfl (lv_at hl 0 rfl) ?_
  refine lv_iconst (v := 1) hx hb dX10_init_85 (by decide +kernel) ?_
  refine va_iast (D := D) hx hb hK hP hD hS 2 0 rfl rfl (by unfold vp_in; decide) dX10_init_86 (fun H locs hP hD hS => ?_)
  have hP : va_P D vwCl [(h0, .inr (10, [.ref q1, .ref q5, .ref q9, .int (0 : Int32), .int (0 : Int32), .int (1 : Int32)])), (q1, .inl (cA2, 200, .inl (fun _ => 0))), (q5, .inl (cA2, 12, .inl (upd (upd (fun _ => 0) 0 (1 : Int32)) 1 (1 : Int32)))), (q9, .inl (cA10, 6, .inr (.inr (.inr (.inr (va_up (va_up (va_up (va_up (va_up (va_up (fun _ => none) 0 (some q13)) 1 (some q20)) 2 (some q27)) 3 (some q34)) 4 (some q41)) 5 (some q48))))))), (q13, .inr (3, [.ref (u18.1 0), .int (0 : Int32), .int (0 : Int32), .int (1 : Int32), .int (4 : Int32)])), ((u18.1 0), .inl (cA2, 16, .inl (fun _ => 0))), (q20, .inr (3, [.ref (u25.1 0), .int (0 : Int32), .int (0 : Int32), .int (1 : Int32), .int (4 : Int32)])), ((u25.1 0), .inl (cA2, 16, .inl (fun _ => 0))), (q27, .inr (3, [.ref (u32.1 0), .int (0 : Int32), .int (0 : Int32), .int (1 : Int32), .int (4 : Int32)])), ((u32.1 0), .inl (cA2, 16, .inl (fun _ => 0))), (q34, .inr (3, [.ref (u39.1 0), .int (0 : Int32), .int (0 : Int32), .int (1 : Int32), .int (4 : Int32)])), ((u39.1 0), .inl (cA2, 16, .inl (fun _ => 0))), (q41, .inr (3, [.ref (u46.1 0), .int (0 : Int32), .int (0 : Int32), .int (1 : Int32), .int (4 : Int32)])), ((u46.1 0), .inl (cA2, 16, .inl (fun _ => 0))), (q48, .inr (3, [.ref (u53.1 0), .int (0 : Int32), .int (0 : Int32), .int (1 : Int32), .int (4 : Int32)])), ((u53.1 0), .inl (cA2, 16, .inl (fun _ => 0)))] H := hP
  have hD : va_D A [(h0, .inr (10, [.ref q1, .ref q5, .ref q9, .int (0 : Int32), .int (0 : Int32), .int (1 : Int32)])), (q1, .inl (cA2, 200, .inl (fun _ => 0))), (q5, .inl (cA2, 12, .inl (upd (upd (fun _ => 0) 0 (1 : Int32)) 1 (1 : Int32)))), (q9, .inl (cA10, 6, .inr (.inr (.inr (.inr (va_up (va_up (va_up (va_up (va_up (va_up (fun _ => none) 0 (some q13)) 1 (some q20)) 2 (some q27)) 3 (some q34)) 4 (some q41)) 5 (some q48))))))), (q13, .inr (3, [.ref (u18.1 0), .int (0 : Int32), .int (0 : Int32), .int (1 : Int32), .int (4 : Int32)])), ((u18.1 0), .inl (cA2, 16, .inl (fun _ => 0))), (q20, .inr (3, [.ref (u25.1 0), .int (0 : Int32), .int (0 : Int32), .int (1 : Int32), .int (4 : Int32)])), ((u25.1 0), .inl (cA2, 16, .inl (fun _ => 0))), (q27, .inr (3, [.ref (u32.1 0), .int (0 : Int32), .int (0 : Int32), .int (1 : Int32), .int (4 : Int32)])), ((u32.1 0), .inl (cA2, 16, .inl (fun _ => 0))), (q34, .inr (3, [.ref (u39.1 0), .int (0 : Int32), .int (0 : Int32), .int (1 : Int32), .int (4 : Int32)])), ((u39.1 0), .inl (cA2, 16, .inl (fun _ => 0))), (q41, .inr (3, [.ref (u46.1 0), .int (0 : Int32), .int (0 : Int32), .int (1 : Int32), .int (4 : Int32)])), ((u46.1 0), .inl (cA2, 16, .inl (fun _ => 0))), (q48, .inr (3, [.ref (u53.1 0), .int (0 : Int32), .int (0 : Int32), .int (1 : Int32), .int (4 : Int32)])), ((u53.1 0), .inl (cA2, 16, .inl (fun _ => 0)))] := hD
  refine lv_iinc (v := 2) (lv' := [(1, .int (2 : Int32)), (0, .ref h0)]) hx hb dX10_init_87 hl (k := 0) rfl (by decide +kernel) (by decide) rfl (fun ls hl => ?_)
  refine lv_goto (tgt := 74) hx hb dX10_init_90 (by decide) ?_
  refine lv_iload_n hx hb dX10_init_74 rfl (lv_at hl 0 rfl) ?_
  refine lv_bipush (v := 12) hx hb dX10_init_75 (by decide +kernel) ?_
  refine lv_icmp_ge (tgt := 93) hx hb dX10_init_77 (by decide) (fun hc => absurd hc (by decide)) (fun hc => ?_)
  refine lv_aload_n hx hb dX10_init_80 rfl (lv_at hl 1 rfl) ?_
  refine va_get (D := D) (ci := 10) (v := .ref q5) (C := RX10) (T := TX10) (N := 6) hx hb hts hiX10 hown hK hP 0 rfl rfl 1 (by decide) lk5 (fun _ h => h) rfl dX10_init_81 ?_
  refine lv_iload_n hx hb dX10_init_84 rfl (lv_at hl 0 rfl) ?_
  refine lv_iconst (v := 1) hx hb dX10_init_85 (by decide +kernel) ?_
  refine va_iast (D := D) hx hb hK hP hD hS 2 0 rfl rfl (by unfold vp_in; decide) dX10_init_86 (fun H locs hP hD hS => ?_)
  have hP : va_P D vwCl [(h0, .inr (10, [.ref q1, .ref q5, .ref q9, .int (0 : Int32), .int (0 : Int32), .int (1 : Int32)])), (q1, .inl (cA2, 200, .inl (fun _ => 0))), (q5, .inl (cA2, 12, .inl (upd (upd (upd (fun _ => 0) 0 (1 : Int32)) 1 (1 : Int32)) 2 (1 : Int32)))), (q9, .inl (cA10, 6, .inr (.inr (.inr (.inr (va_up (va_up (va_up (va_up (va_up (va_up (fun _ => none) 0 (some q13)) 1 (some q20)) 2 (some q27)) 3 (some q34)) 4 (some q41)) 5 (some q48))))))), (q13, .inr (3, [.ref (u18.1 0), .int (0 : Int32), .int (0 : Int32), .int (1 : Int32), .int (4 : Int32)])), ((u18.1 0), .inl (cA2, 16, .inl (fun _ => 0))), (q20, .inr (3, [.ref (u25.1 0), .int (0 : Int32), .int (0 : Int32), .int (1 : Int32), .int (4 : Int32)])), ((u25.1 0), .inl (cA2, 16, .inl (fun _ => 0))), (q27, .inr (3, [.ref (u32.1 0), .int (0 : Int32), .int (0 : Int32), .int (1 : Int32), .int (4 : Int32)])), ((u32.1 0), .inl (cA2, 16, .inl (fun _ => 0))), (q34, .inr (3, [.ref (u39.1 0), .int (0 : Int32), .int (0 : Int32), .int (1 : Int32), .int (4 : Int32)])), ((u39.1 0), .inl (cA2, 16, .inl (fun _ => 0))), (q41, .inr (3, [.ref (u46.1 0), .int (0 : Int32), .int (0 : Int32), .int (1 : Int32), .int (4 : Int32)])), ((u46.1 0), .inl (cA2, 16, .inl (fun _ => 0))), (q48, .inr (3, [.ref (u53.1 0), .int (0 : Int32), .int (0 : Int32), .int (1 : Int32), .int (4 : Int32)])), ((u53.1 0), .inl (cA2, 16, .inl (fun _ => 0)))] H := hP
  have hD : va_D A [(h0, .inr (10, [.ref q1, .ref q5, .ref q9, .int (0 : Int32), .int (0 : Int32), .int (1 : Int32)])), (q1, .inl (cA2, 200, .inl (fun _ => 0))), (q5, .inl (cA2, 12, .inl (upd (upd (upd (fun _ => 0) 0 (1 : Int32)) 1 (1 : Int32)) 2 (1 : Int32)))), (q9, .inl (cA10, 6, .inr (.inr (.inr (.inr (va_up (va_up (va_up (va_up (va_up (va_up (fun _ => none) 0 (some q13)) 1 (some q20)) 2 (some q27)) 3 (some q34)) 4 (some q41)) 5 (some q48))))))), (q13, .inr (3, [.ref (u18.1 0), .int (0 : Int32), .int (0 : Int32), .int (1 : Int32), .int (4 : Int32)])), ((u18.1 0), .inl (cA2, 16, .inl (fun _ => 0))), (q20, .inr (3, [.ref (u25.1 0), .int (0 : Int32), .int (0 : Int32), .int (1 : Int32), .int (4 : Int32)])), ((u25.1 0), .inl (cA2, 16, .inl (fun _ => 0))), (q27, .inr (3, [.ref (u32.1 0), .int (0 : Int32), .int (0 : Int32), .int (1 : Int32), .int (4 : Int32)])), ((u32.1 0), .inl (cA2, 16, .inl (fun _ => 0))), (q34, .inr (3, [.ref (u39.1 0), .int (0 : Int32), .int (0 : Int32), .int (1 : Int32), .int (4 : Int32)])), ((u39.1 0), .inl (cA2, 16, .inl (fun _ => 0))), (q41, .inr (3, [.ref (u46.1 0), .int (0 : Int32), .int (0 : Int32), .int (1 : Int32), .int (4 : Int32)])), ((u46.1 0), .inl (cA2, 16, .inl (fun _ => 0))), (q48, .inr (3, [.ref (u53.1 0), .int (0 : Int32), .int (0 : Int32), .int (1 : Int32), .int (4 : Int32)])), ((u53.1 0), .inl (cA2, 16, .inl (fun _ => 0)))] := hD
  refine lv_iinc (v := 3) (lv' := [(1, .int (3 : Int32)), (0, .ref h0)]) hx hb dX10_init_87 hl (k := 0) rfl (by decide +kernel) (by decide) rfl (fun ls hl => ?_)
  refine lv_goto (tgt := 74) hx hb dX10_init_90 (by decide) ?_
  refine lv_iload_n hx hb dX10_init_74 rfl (lv_at hl 0 rfl) ?_
  refine lv_bipush (v := 12) hx hb dX10_init_75 (by decide +kernel) ?_
  refine lv_icmp_ge (tgt := 93) hx hb dX10_init_77 (by decide) (fun hc => absurd hc (by decide)) (fun hc => ?_)
  refine lv_aload_n hx hb dX10_init_80 rfl (lv_at hl 1 rfl) ?_
  refine va_get (D := D) (ci := 10) (v := .ref q5) (C := RX10) (T := TX10) (N := 6) hx hb hts hiX10 hown hK hP 0 rfl rfl 1 (by decide) lk5 (fun _ h => h) rfl dX10_init_81 ?_
  refine lv_iload_n hx hb dX10_init_84 rfl (lv_at hl 0 rfl) ?_
  refine lv_iconst (v := 1) hx hb dX10_init_85 (by decide +kernel) ?_
  refine va_iast (D := D) hx hb hK hP hD hS 2 0 rfl rfl (by unfold vp_in; decide) dX10_init_86 (fun H locs hP hD hS => ?_)
  have hP : va_P D vwCl [(h0, .inr (10, [.ref q1, .ref q5, .ref q9, .int (0 : Int32), .int (0 : Int32), .int (1 : Int32)])), (q1, .inl (cA2, 200, .inl (fun _ => 0))), (q5, .inl (cA2, 12, .inl (upd (upd (upd (upd (fun _ => 0) 0 (1 : Int32)) 1 (1 : Int32)) 2 (1 : Int32)) 3 (1 : Int32)))), (q9, .inl (cA10, 6, .inr (.inr (.inr (.inr (va_up (va_up (va_up (va_up (va_up (va_up (fun _ => none) 0 (some q13)) 1 (some q20)) 2 (some q27)) 3 (some q34)) 4 (some q41)) 5 (some q48))))))), (q13, .inr (3, [.ref (u18.1 0), .int (0 : Int32), .int (0 : Int32), .int (1 : Int32), .int (4 : Int32)])), ((u18.1 0), .inl (cA2, 16, .inl (fun _ => 0))), (q20, .inr (3, [.ref (u25.1 0), .int (0 : Int32), .int (0 : Int32), .int (1 : Int32), .int (4 : Int32)])), ((u25.1 0), .inl (cA2, 16, .inl (fun _ => 0))), (q27, .inr (3, [.ref (u32.1 0), .int (0 : Int32), .int (0 : Int32), .int (1 : Int32), .int (4 : Int32)])), ((u32.1 0), .inl (cA2, 16, .inl (fun _ => 0))), (q34, .inr (3, [.ref (u39.1 0), .int (0 : Int32), .int (0 : Int32), .int (1 : Int32), .int (4 : Int32)])), ((u39.1 0), .inl (cA2, 16, .inl (fun _ => 0))), (q41, .inr (3, [.ref (u46.1 0), .int (0 : Int32), .int (0 : Int32), .int (1 : Int32), .int (4 : Int32)])), ((u46.1 0), .inl (cA2, 16, .inl (fun _ => 0))), (q48, .inr (3, [.ref (u53.1 0), .int (0 : Int32), .int (0 : Int32), .int (1 : Int32), .int (4 : Int32)])), ((u53.1 0), .inl (cA2, 16, .inl (fun _ => 0)))] H := hP
  have hD : va_D A [(h0, .inr (10, [.ref q1, .ref q5, .ref q9, .int (0 : Int32), .int (0 : Int32), .int (1 : Int32)])), (q1, .inl (cA2, 200, .inl (fun _ => 0))), (q5, .inl (cA2, 12, .inl (upd (upd (upd (upd (fun _ => 0) 0 (1 : Int32)) 1 (1 : Int32)) 2 (1 : Int32)) 3 (1 : Int32)))), (q9, .inl (cA10, 6, .inr (.inr (.inr (.inr (va_up (va_up (va_up (va_up (va_up (va_up (fun _ => none) 0 (some q13)) 1 (some q20)) 2 (some q27)) 3 (some q34)) 4 (some q41)) 5 (some q48))))))), (q13, .inr (3, [.ref (u18.1 0), .int (0 : Int32), .int (0 : Int32), .int (1 : Int32), .int (4 : Int32)])), ((u18.1 0), .inl (cA2, 16, .inl (fun _ => 0))), (q20, .inr (3, [.ref (u25.1 0), .int (0 : Int32), .int (0 : Int32), .int (1 : Int32), .int (4 : Int32)])), ((u25.1 0), .inl (cA2, 16, .inl (fun _ => 0))), (q27, .inr (3, [.ref (u32.1 0), .int (0 : Int32), .int (0 : Int32), .int (1 : Int32), .int (4 : Int32)])), ((u32.1 0), .inl (cA2, 16, .inl (fun _ => 0))), (q34, .inr (3, [.ref (u39.1 0), .int (0 : Int32), .int (0 : Int32), .int (1 : Int32), .int (4 : Int32)])), ((u39.1 0), .inl (cA2, 16, .inl (fun _ => 0))), (q41, .inr (3, [.ref (u46.1 0), .int (0 : Int32), .int (0 : Int32), .int (1 : Int32), .int (4 : Int32)])), ((u46.1 0), .inl (cA2, 16, .inl (fun _ => 0))), (q48, .inr (3, [.ref (u53.1 0), .int (0 : Int32), .int (0 : Int32), .int (1 : Int32), .int (4 : Int32)])), ((u53.1 0), .inl (cA2, 16, .inl (fun _ => 0)))] := hD
  refine lv_iinc (v := 4) (lv' := [(1, .int (4 : Int32)), (0, .ref h0)]) hx hb dX10_init_87 hl (k := 0) rfl (by decide +kernel) (by decide) rfl (fun ls hl => ?_)
  refine lv_goto (tgt := 74) hx hb dX10_init_90 (by decide) ?_
  refine lv_iload_n hx hb dX10_init_74 rfl (lv_at hl 0 rfl) ?_
  refine lv_bipush (v := 12) hx hb dX10_init_75 (by decide +kernel) ?_
  refine lv_icmp_ge (tgt := 93) hx hb dX10_init_77 (by decide) (fun hc => absurd hc (by decide)) (fun hc => ?_)
  refine lv_aload_n hx hb dX10_init_80 rfl (lv_at hl 1 rfl) ?_
  refine va_get (D := D) (ci := 10) (v := .ref q5) (C := RX10) (T := TX10) (N := 6) hx hb hts hiX10 hown hK hP 0 rfl rfl 1 (by decide) lk5 (fun _ h => h) rfl dX10_init_81 ?_
  refine lv_iload_n hx hb dX10_init_84 rfl (lv_at hl 0 rfl) ?_
  refine lv_iconst (v := 1) hx hb dX10_init_85 (by decide +kernel) ?_
  refine va_iast (D := D) hx hb hK hP hD hS 2 0 rfl rfl (by unfold vp_in; decide) dX10_init_86 (fun H locs hP hD hS => ?_)
  have hP : va_P D vwCl [(h0, .inr (10, [.ref q1, .ref q5, .ref q9, .int (0 : Int32), .int (0 : Int32), .int (1 : Int32)])), (q1, .inl (cA2, 200, .inl (fun _ => 0))), (q5, .inl (cA2, 12, .inl (upd (upd (upd (upd (upd (fun _ => 0) 0 (1 : Int32)) 1 (1 : Int32)) 2 (1 : Int32)) 3 (1 : Int32)) 4 (1 : Int32)))), (q9, .inl (cA10, 6, .inr (.inr (.inr (.inr (va_up (va_up (va_up (va_up (va_up (va_up (fun _ => none) 0 (some q13)) 1 (some q20)) 2 (some q27)) 3 (some q34)) 4 (some q41)) 5 (some q48))))))), (q13, .inr (3, [.ref (u18.1 0), .int (0 : Int32), .int (0 : Int32), .int (1 : Int32), .int (4 : Int32)])), ((u18.1 0), .inl (cA2, 16, .inl (fun _ => 0))), (q20, .inr (3, [.ref (u25.1 0), .int (0 : Int32), .int (0 : Int32), .int (1 : Int32), .int (4 : Int32)])), ((u25.1 0), .inl (cA2, 16, .inl (fun _ => 0))), (q27, .inr (3, [.ref (u32.1 0), .int (0 : Int32), .int (0 : Int32), .int (1 : Int32), .int (4 : Int32)])), ((u32.1 0), .inl (cA2, 16, .inl (fun _ => 0))), (q34, .inr (3, [.ref (u39.1 0), .int (0 : Int32), .int (0 : Int32), .int (1 : Int32), .int (4 : Int32)])), ((u39.1 0), .inl (cA2, 16, .inl (fun _ => 0))), (q41, .inr (3, [.ref (u46.1 0), .int (0 : Int32), .int (0 : Int32), .int (1 : Int32), .int (4 : Int32)])), ((u46.1 0), .inl (cA2, 16, .inl (fun _ => 0))), (q48, .inr (3, [.ref (u53.1 0), .int (0 : Int32), .int (0 : Int32), .int (1 : Int32), .int (4 : Int32)])), ((u53.1 0), .inl (cA2, 16, .inl (fun _ => 0)))] H := hP
  have hD : va_D A [(h0, .inr (10, [.ref q1, .ref q5, .ref q9, .int (0 : Int32), .int (0 : Int32), .int (1 : Int32)])), (q1, .inl (cA2, 200, .inl (fun _ => 0))), (q5, .inl (cA2, 12, .inl (upd (upd (upd (upd (upd (fun _ => 0) 0 (1 : Int32)) 1 (1 : Int32)) 2 (1 : Int32)) 3 (1 : Int32)) 4 (1 : Int32)))), (q9, .inl (cA10, 6, .inr (.inr (.inr (.inr (va_up (va_up (va_up (va_up (va_up (va_up (fun _ => none) 0 (some q13)) 1 (some q20)) 2 (some q27)) 3 (some q34)) 4 (some q41)) 5 (some q48))))))), (q13, .inr (3, [.ref (u18.1 0), .int (0 : Int32), .int (0 : Int32), .int (1 : Int32), .int (4 : Int32)])), ((u18.1 0), .inl (cA2, 16, .inl (fun _ => 0))), (q20, .inr (3, [.ref (u25.1 0), .int (0 : Int32), .int (0 : Int32), .int (1 : Int32), .int (4 : Int32)])), ((u25.1 0), .inl (cA2, 16, .inl (fun _ => 0))), (q27, .inr (3, [.ref (u32.1 0), .int (0 : Int32), .int (0 : Int32), .int (1 : Int32), .int (4 : Int32)])), ((u32.1 0), .inl (cA2, 16, .inl (fun _ => 0))), (q34, .inr (3, [.ref (u39.1 0), .int (0 : Int32), .int (0 : Int32), .int (1 : Int32), .int (4 : Int32)])), ((u39.1 0), .inl (cA2, 16, .inl (fun _ => 0))), (q41, .inr (3, [.ref (u46.1 0), .int (0 : Int32), .int (0 : Int32), .int (1 : Int32), .int (4 : Int32)])), ((u46.1 0), .inl (cA2, 16, .inl (fun _ => 0))), (q48, .inr (3, [.ref (u53.1 0), .int (0 : Int32), .int (0 : Int32), .int (1 : Int32), .int (4 : Int32)])), ((u53.1 0), .inl (cA2, 16, .inl (fun _ => 0)))] := hD
  refine lv_iinc (v := 5) (lv' := [(1, .int (5 : Int32)), (0, .ref h0)]) hx hb dX10_init_87 hl (k := 0) rfl (by decide +kernel) (by decide) rfl (fun ls hl => ?_)
  refine lv_goto (tgt := 74) hx hb dX10_init_90 (by decide) ?_
  refine lv_iload_n hx hb dX10_init_74 rfl (lv_at hl 0 rfl) ?_
  refine lv_bipush (v := 12) hx hb dX10_init_75 (by decide +kernel) ?_
  refine lv_icmp_ge (tgt := 93) hx hb dX10_init_77 (by decide) (fun hc => absurd hc (by decide)) (fun hc => ?_)
  refine lv_aload_n hx hb dX10_init_80 rfl (lv_at hl 1 rfl) ?_
  refine va_get (D := D) (ci := 10) (v := .ref q5) (C := RX10) (T := TX10) (N := 6) hx hb hts hiX10 hown hK hP 0 rfl rfl 1 (by decide) lk5 (fun _ h => h) rfl dX10_init_81 ?_
  refine lv_iload_n hx hb dX10_init_84 rfl (lv_at hl 0 rfl) ?_
  refine lv_iconst (v := 1) hx hb dX10_init_85 (by decide +kernel) ?_
  refine va_iast (D := D) hx hb hK hP hD hS 2 0 rfl rfl (by unfold vp_in; decide) dX10_init_86 (fun H locs hP hD hS => ?_)
  have hP : va_P D vwCl [(h0, .inr (10, [.ref q1, .ref q5, .ref q9, .int (0 : Int32), .int (0 : Int32), .int (1 : Int32)])), (q1, .inl (cA2, 200, .inl (fun _ => 0))), (q5, .inl (cA2, 12, .inl (upd (upd (upd (upd (upd (upd (fun _ => 0) 0 (1 : Int32)) 1 (1 : Int32)) 2 (1 : Int32)) 3 (1 : Int32)) 4 (1 : Int32)) 5 (1 : Int32)))), (q9, .inl (cA10, 6, .inr (.inr (.inr (.inr (va_up (va_up (va_up (va_up (va_up (va_up (fun _ => none) 0 (some q13)) 1 (some q20)) 2 (some q27)) 3 (some q34)) 4 (some q41)) 5 (some q48))))))), (q13, .inr (3, [.ref (u18.1 0), .int (0 : Int32), .int (0 : Int32), .int (1 : Int32), .int (4 : Int32)])), ((u18.1 0), .inl (cA2, 16, .inl (fun _ => 0))), (q20, .inr (3, [.ref (u25.1 0), .int (0 : Int32), .int (0 : Int32), .int (1 : Int32), .int (4 : Int32)])), ((u25.1 0), .inl (cA2, 16, .inl (fun _ => 0))), (q27, .inr (3, [.ref (u32.1 0), .int (0 : Int32), .int (0 : Int32), .int (1 : Int32), .int (4 : Int32)])), ((u32.1 0), .inl (cA2, 16, .inl (fun _ => 0))), (q34, .inr (3, [.ref (u39.1 0), .int (0 : Int32), .int (0 : Int32), .int (1 : Int32), .int (4 : Int32)])), ((u39.1 0), .inl (cA2, 16, .inl (fun _ => 0))), (q41, .inr (3, [.ref (u46.1 0), .int (0 : Int32), .int (0 : Int32), .int (1 : Int32), .int (4 : Int32)])), ((u46.1 0), .inl (cA2, 16, .inl (fun _ => 0))), (q48, .inr (3, [.ref (u53.1 0), .int (0 : Int32), .int (0 : Int32), .int (1 : Int32), .int (4 : Int32)])), ((u53.1 0), .inl (cA2, 16, .inl (fun _ => 0)))] H := hP
  have hD : va_D A [(h0, .inr (10, [.ref q1, .ref q5, .ref q9, .int (0 : Int32), .int (0 : Int32), .int (1 : Int32)])), (q1, .inl (cA2, 200, .inl (fun _ => 0))), (q5, .inl (cA2, 12, .inl (upd (upd (upd (upd (upd (upd (fun _ => 0) 0 (1 : Int32)) 1 (1 : Int32)) 2 (1 : Int32)) 3 (1 : Int32)) 4 (1 : Int32)) 5 (1 : Int32)))), (q9, .inl (cA10, 6, .inr (.inr (.inr (.inr (va_up (va_up (va_up (va_up (va_up (va_up (fun _ => none) 0 (some q13)) 1 (some q20)) 2 (some q27)) 3 (some q34)) 4 (some q41)) 5 (some q48))))))), (q13, .inr (3, [.ref (u18.1 0), .int (0 : Int32), .int (0 : Int32), .int (1 : Int32), .int (4 : Int32)])), ((u18.1 0), .inl (cA2, 16, .inl (fun _ => 0))), (q20, .inr (3, [.ref (u25.1 0), .int (0 : Int32), .int (0 : Int32), .int (1 : Int32), .int (4 : Int32)])), ((u25.1 0), .inl (cA2, 16, .inl (fun _ => 0))), (q27, .inr (3, [.ref (u32.1 0), .int (0 : Int32), .int (0 : Int32), .int (1 : Int32), .int (4 : Int32)])), ((u32.1 0), .inl (cA2, 16, .inl (fun _ => 0))), (q34, .inr (3, [.ref (u39.1 0), .int (0 : Int32), .int (0 : Int32), .int (1 : Int32), .int (4 : Int32)])), ((u39.1 0), .inl (cA2, 16, .inl (fun _ => 0))), (q41, .inr (3, [.ref (u46.1 0), .int (0 : Int32), .int (0 : Int32), .int (1 : Int32), .int (4 : Int32)])), ((u46.1 0), .inl (cA2, 16, .inl (fun _ => 0))), (q48, .inr (3, [.ref (u53.1 0), .int (0 : Int32), .int (0 : Int32), .int (1 : Int32), .int (4 : Int32)])), ((u53.1 0), .inl (cA2, 16, .inl (fun _ => 0)))] := hD
  refine lv_iinc (v := 6) (lv' := [(1, .int (6 : Int32)), (0, .ref h0)]) hx hb dX10_init_87 hl (k := 0) rfl (by decide +kernel) (by decide) rfl (fun ls hl => ?_)
  refine lv_goto (tgt := 74) hx hb dX10_init_90 (by decide) ?_
  refine lv_iload_n hx hb dX10_init_74 rfl (lv_at hl 0 rfl) ?_
  refine lv_bipush (v := 12) hx hb dX10_init_75 (by decide +kernel) ?_
  refine lv_icmp_ge (tgt := 93) hx hb dX10_init_77 (by decide) (fun hc => absurd hc (by decide)) (fun hc => ?_)
  refine lv_aload_n hx hb dX10_init_80 rfl (lv_at hl 1 rfl) ?_
  refine va_get (D := D) (ci := 10) (v := .ref q5) (C := RX10) (T := TX10) (N := 6) hx hb hts hiX10 hown hK hP 0 rfl rfl 1 (by decide) lk5 (fun _ h => h) rfl dX10_init_81 ?_
  refine lv_iload_n hx hb dX10_init_84 rfl (lv_at hl 0 rfl) ?_
  refine lv_iconst (v := 1) hx hb dX10_init_85 (by decide +kernel) ?_
  refine va_iast (D := D) hx hb hK hP hD hS 2 0 rfl rfl (by unfold vp_in; decide) dX10_init_86 (fun H locs hP hD hS => ?_)
  have hP : va_P D vwCl [(h0, .inr (10, [.ref q1, .ref q5, .ref q9, .int (0 : Int32), .int (0 : Int32), .int (1 : Int32)])), (q1, .inl (cA2, 200, .inl (fun _ => 0))), (q5, .inl (cA2, 12, .inl (upd (upd (upd (upd (upd (upd (upd (fun _ => 0) 0 (1 : Int32)) 1 (1 : Int32)) 2 (1 : Int32)) 3 (1 : Int32)) 4 (1 : Int32)) 5 (1 : Int32)) 6 (1 : Int32)))), (q9, .inl (cA10, 6, .inr (.inr (.inr (.inr (va_up (va_up (va_up (va_up (va_up (va_up (fun _ => none) 0 (some q13)) 1 (some q20)) 2 (some q27)) 3 (some q34)) 4 (some q41)) 5 (some q48))))))), (q13, .inr (3, [.ref (u18.1 0), .int (0 : Int32), .int (0 : Int32), .int (1 : Int32), .int (4 : Int32)])), ((u18.1 0), .inl (cA2, 16, .inl (fun _ => 0))), (q20, .inr (3, [.ref (u25.1 0), .int (0 : Int32), .int (0 : Int32), .int (1 : Int32), .int (4 : Int32)])), ((u25.1 0), .inl (cA2, 16, .inl (fun _ => 0))), (q27, .inr (3, [.ref (u32.1 0), .int (0 : Int32), .int (0 : Int32), .int (1 : Int32), .int (4 : Int32)])), ((u32.1 0), .inl (cA2, 16, .inl (fun _ => 0))), (q34, .inr (3, [.ref (u39.1 0), .int (0 : Int32), .int (0 : Int32), .int (1 : Int32), .int (4 : Int32)])), ((u39.1 0), .inl (cA2, 16, .inl (fun _ => 0))), (q41, .inr (3, [.ref (u46.1 0), .int (0 : Int32), .int (0 : Int32), .int (1 : Int32), .int (4 : Int32)])), ((u46.1 0), .inl (cA2, 16, .inl (fun _ => 0))), (q48, .inr (3, [.ref (u53.1 0), .int (0 : Int32), .int (0 : Int32), .int (1 : Int32), .int (4 : Int32)])), ((u53.1 0), .inl (cA2, 16, .inl (fun _ => 0)))] H := hP
  have hD : va_D A [(h0, .inr (10, [.ref q1, .ref q5, .ref q9, .int (0 : Int32), .int (0 : Int32), .int (1 : Int32)])), (q1, .inl (cA2, 200, .inl (fun _ => 0))), (q5, .inl (cA2, 12, .inl (upd (upd (upd (upd (upd (upd (upd (fun _ => 0) 0 (1 : Int32)) 1 (1 : Int32)) 2 (1 : Int32)) 3 (1 : Int32)) 4 (1 : Int32)) 5 (1 : Int32)) 6 (1 : Int32)))), (q9, .inl (cA10, 6, .inr (.inr (.inr (.inr (va_up (va_up (va_up (va_up (va_up (va_up (fun _ => none) 0 (some q13)) 1 (some q20)) 2 (some q27)) 3 (some q34)) 4 (some q41)) 5 (some q48))))))), (q13, .inr (3, [.ref (u18.1 0), .int (0 : Int32), .int (0 : Int32), .int (1 : Int32), .int (4 : Int32)])), ((u18.1 0), .inl (cA2, 16, .inl (fun _ => 0))), (q20, .inr (3, [.ref (u25.1 0), .int (0 : Int32), .int (0 : Int32), .int (1 : Int32), .int (4 : Int32)])), ((u25.1 0), .inl (cA2, 16, .inl (fun _ => 0))), (q27, .inr (3, [.ref (u32.1 0), .int (0 : Int32), .int (0 : Int32), .int (1 : Int32), .int (4 : Int32)])), ((u32.1 0), .inl (cA2, 16, .inl (fun _ => 0))), (q34, .inr (3, [.ref (u39.1 0), .int (0 : Int32), .int (0 : Int32), .int (1 : Int32), .int (4 : Int32)])), ((u39.1 0), .inl (cA2, 16, .inl (fun _ => 0))), (q41, .inr (3, [.ref (u46.1 0), .int (0 : Int32), .int (0 : Int32), .int (1 : Int32), .int (4 : Int32)])), ((u46.1 0), .inl (cA2, 16, .inl (fun _ => 0))), (q48, .inr (3, [.ref (u53.1 0), .int (0 : Int32), .int (0 : Int32), .int (1 : Int32), .int (4 : Int32)])), ((u53.1 0), .inl (cA2, 16, .inl (fun _ => 0)))] := hD
  refine lv_iinc (v := 7) (lv' := [(1, .int (7 : Int32)), (0, .ref h0)]) hx hb dX10_init_87 hl (k := 0) rfl (by decide +kernel) (by decide) rfl (fun ls hl => ?_)
  refine lv_goto (tgt := 74) hx hb dX10_init_90 (by decide) ?_
  refine lv_iload_n hx hb dX10_init_74 rfl (lv_at hl 0 rfl) ?_
  refine lv_bipush (v := 12) hx hb dX10_init_75 (by decide +kernel) ?_
  refine lv_icmp_ge (tgt := 93) hx hb dX10_init_77 (by decide) (fun hc => absurd hc (by decide)) (fun hc => ?_)
  refine lv_aload_n hx hb dX10_init_80 rfl (lv_at hl 1 rfl) ?_
  refine va_get (D := D) (ci := 10) (v := .ref q5) (C := RX10) (T := TX10) (N := 6) hx hb hts hiX10 hown hK hP 0 rfl rfl 1 (by decide) lk5 (fun _ h => h) rfl dX10_init_81 ?_
  refine lv_iload_n hx hb dX10_init_84 rfl (lv_at hl 0 rfl) ?_
  refine lv_iconst (v := 1) hx hb dX10_init_85 (by decide +kernel) ?_
  refine va_iast (D := D) hx hb hK hP hD hS 2 0 rfl rfl (by unfold vp_in; decide) dX10_init_86 (fun H locs hP hD hS => ?_)
  have hP : va_P D vwCl [(h0, .inr (10, [.ref q1, .ref q5, .ref q9, .int (0 : Int32), .int (0 : Int32), .int (1 : Int32)])), (q1, .inl (cA2, 200, .inl (fun _ => 0))), (q5, .inl (cA2, 12, .inl (upd (upd (upd (upd (upd (upd (upd (upd (fun _ => 0) 0 (1 : Int32)) 1 (1 : Int32)) 2 (1 : Int32)) 3 (1 : Int32)) 4 (1 : Int32)) 5 (1 : Int32)) 6 (1 : Int32)) 7 (1 : Int32)))), (q9, .inl (cA10, 6, .inr (.inr (.inr (.inr (va_up (va_up (va_up (va_up (va_up (va_up (fun _ => none) 0 (some q13)) 1 (some q20)) 2 (some q27)) 3 (some q34)) 4 (some q41)) 5 (some q48))))))), (q13, .inr (3, [.ref (u18.1 0), .int (0 : Int32), .int (0 : Int32), .int (1 : Int32), .int (4 : Int32)])), ((u18.1 0), .inl (cA2, 16, .inl (fun _ => 0))), (q20, .inr (3, [.ref (u25.1 0), .int (0 : Int32), .int (0 : Int32), .int (1 : Int32), .int (4 : Int32)])), ((u25.1 0), .inl (cA2, 16, .inl (fun _ => 0))), (q27, .inr (3, [.ref (u32.1 0), .int (0 : Int32), .int (0 : Int32), .int (1 : Int32), .int (4 : Int32)])), ((u32.1 0), .inl (cA2, 16, .inl (fun _ => 0))), (q34, .inr (3, [.ref (u39.1 0), .int (0 : Int32), .int (0 : Int32), .int (1 : Int32), .int (4 : Int32)])), ((u39.1 0), .inl (cA2, 16, .inl (fun _ => 0))), (q41, .inr (3, [.ref (u46.1 0), .int (0 : Int32), .int (0 : Int32), .int (1 : Int32), .int (4 : Int32)])), ((u46.1 0), .inl (cA2, 16, .inl (fun _ => 0))), (q48, .inr (3, [.ref (u53.1 0), .int (0 : Int32), .int (0 : Int32), .int (1 : Int32), .int (4 : Int32)])), ((u53.1 0), .inl (cA2, 16, .inl (fun _ => 0)))] H := hP
  have hD : va_D A [(h0, .inr (10, [.ref q1, .ref q5, .ref q9, .int (0 : Int32), .int (0 : Int32), .int (1 : Int32)])), (q1, .inl (cA2, 200, .inl (fun _ => 0))), (q5, .inl (cA2, 12, .inl (upd (upd (upd (upd (upd (upd (upd (upd (fun _ => 0) 0 (1 : Int32)) 1 (1 : Int32)) 2 (1 : Int32)) 3 (1 : Int32)) 4 (1 : Int32)) 5 (1 : Int32)) 6 (1 : Int32)) 7 (1 : Int32)))), (q9, .inl (cA10, 6, .inr (.inr (.inr (.inr (va_up (va_up (va_up (va_up (va_up (va_up (fun _ => none) 0 (some q13)) 1 (some q20)) 2 (some q27)) 3 (some q34)) 4 (some q41)) 5 (some q48))))))), (q13, .inr (3, [.ref (u18.1 0), .int (0 : Int32), .int (0 : Int32), .int (1 : Int32), .int (4 : Int32)])), ((u18.1 0), .inl (cA2, 16, .inl (fun _ => 0))), (q20, .inr (3, [.ref (u25.1 0), .int (0 : Int32), .int (0 : Int32), .int (1 : Int32), .int (4 : Int32)])), ((u25.1 0), .inl (cA2, 16, .inl (fun _ => 0))), (q27, .inr (3, [.ref (u32.1 0), .int (0 : Int32), .int (0 : Int32), .int (1 : Int32), .int (4 : Int32)])), ((u32.1 0), .inl (cA2, 16, .inl (fun _ => 0))), (q34, .inr (3, [.ref (u39.1 0), .int (0 : Int32), .int (0 : Int32), .int (1 : Int32), .int (4 : Int32)])), ((u39.1 0), .inl (cA2, 16, .inl (fun _ => 0))), (q41, .inr (3, [.ref (u46.1 0), .int (0 : Int32), .int (0 : Int32), .int (1 : Int32), .int (4 : Int32)])), ((u46.1 0), .inl (cA2, 16, .inl (fun _ => 0))), (q48, .inr (3, [.ref (u53.1 0), .int (0 : Int32), .int (0 : Int32), .int (1 : Int32), .int (4 : Int32)])), ((u53.1 0), .inl (cA2, 16, .inl (fun _ => 0)))] := hD
  refine lv_iinc (v := 8) (lv' := [(1, .int (8 : Int32)), (0, .ref h0)]) hx hb dX10_init_87 hl (k := 0) rfl (by decide +kernel) (by decide) rfl (fun ls hl => ?_)
  refine lv_goto (tgt := 74) hx hb dX10_init_90 (by decide) ?_
  refine lv_iload_n hx hb dX10_init_74 rfl (lv_at hl 0 rfl) ?_
  refine lv_bipush (v := 12) hx hb dX10_init_75 (by decide +kernel) ?_
  refine lv_icmp_ge (tgt := 93) hx hb dX10_init_77 (by decide) (fun hc => absurd hc (by decide)) (fun hc => ?_)
  refine lv_aload_n hx hb dX10_init_80 rfl (lv_at hl 1 rfl) ?_
  refine va_get (D := D) (ci := 10) (v := .ref q5) (C := RX10) (T := TX10) (N := 6) hx hb hts hiX10 hown hK hP 0 rfl rfl 1 (by decide) lk5 (fun _ h => h) rfl dX10_init_81 ?_
  refine lv_iload_n hx hb dX10_init_84 rfl (lv_at hl 0 rfl) ?_
  refine lv_iconst (v := 1) hx hb dX10_init_85 (by decide +kernel) ?_
  refine va_iast (D := D) hx hb hK hP hD hS 2 0 rfl rfl (by unfold vp_in; decide) dX10_init_86 (fun H locs hP hD hS => ?_)
  have hP : va_P D vwCl [(h0, .inr (10, [.ref q1, .ref q5, .ref q9, .int (0 : Int32), .int (0 : Int32), .int (1 : Int32)])), (q1, .inl (cA2, 200, .inl (fun _ => 0))), (q5, .inl (cA2, 12, .inl (upd (upd (upd (upd (upd (upd (upd (upd (upd (fun _ => 0) 0 (1 : Int32)) 1 (1 : Int32)) 2 (1 : Int32)) 3 (1 : Int32)) 4 (1 : Int32)) 5 (1 : Int32)) 6 (1 : Int32)) 7 (1 : Int32)) 8 (1 : Int32)))), (q9, .inl (cA10, 6, .inr (.inr (.inr (.inr (va_up (va_up (va_up (va_up (va_up (va_up (fun _ => none) 0 (some q13)) 1 (some q20)) 2 (some q27)) 3 (some q34)) 4 (some q41)) 5 (some q48))))))), (q13, .inr (3, [.ref (u18.1 0), .int (0 : Int32), .int (0 : Int32), .int (1 : Int32), .int (4 : Int32)])), ((u18.1 0), .inl (cA2, 16, .inl (fun _ => 0))), (q20, .inr (3, [.ref (u25.1 0), .int (0 : Int32), .int (0 : Int32), .int (1 : Int32), .int (4 : Int32)])), ((u25.1 0), .inl (cA2, 16, .inl (fun _ => 0))), (q27, .inr (3, [.ref (u32.1 0), .int (0 : Int32), .int (0 : Int32), .int (1 : Int32), .int (4 : Int32)])), ((u32.1 0), .inl (cA2, 16, .inl (fun _ => 0))), (q34, .inr (3, [.ref (u39.1 0), .int (0 : Int32), .int (0 : Int32), .int (1 : Int32), .int (4 : Int32)])), ((u39.1 0), .inl (cA2, 16, .inl (fun _ => 0))), (q41, .inr (3, [.ref (u46.1 0), .int (0 : Int32), .int (0 : Int32), .int (1 : Int32), .int (4 : Int32)])), ((u46.1 0), .inl (cA2, 16, .inl (fun _ => 0))), (q48, .inr (3, [.ref (u53.1 0), .int (0 : Int32), .int (0 : Int32), .int (1 : Int32), .int (4 : Int32)])), ((u53.1 0), .inl (cA2, 16, .inl (fun _ => 0)))] H := hP
  have hD : va_D A [(h0, .inr (10, [.ref q1, .ref q5, .ref q9, .int (0 : Int32), .int (0 : Int32), .int (1 : Int32)])), (q1, .inl (cA2, 200, .inl (fun _ => 0))), (q5, .inl (cA2, 12, .inl (upd (upd (upd (upd (upd (upd (upd (upd (upd (fun _ => 0) 0 (1 : Int32)) 1 (1 : Int32)) 2 (1 : Int32)) 3 (1 : Int32)) 4 (1 : Int32)) 5 (1 : Int32)) 6 (1 : Int32)) 7 (1 : Int32)) 8 (1 : Int32)))), (q9, .inl (cA10, 6, .inr (.inr (.inr (.inr (va_up (va_up (va_up (va_up (va_up (va_up (fun _ => none) 0 (some q13)) 1 (some q20)) 2 (some q27)) 3 (some q34)) 4 (some q41)) 5 (some q48))))))), (q13, .inr (3, [.ref (u18.1 0), .int (0 : Int32), .int (0 : Int32), .int (1 : Int32), .int (4 : Int32)])), ((u18.1 0), .inl (cA2, 16, .inl (fun _ => 0))), (q20, .inr (3, [.ref (u25.1 0), .int (0 : Int32), .int (0 : Int32), .int (1 : Int32), .int (4 : Int32)])), ((u25.1 0), .inl (cA2, 16, .inl (fun _ => 0))), (q27, .inr (3, [.ref (u32.1 0), .int (0 : Int32), .int (0 : Int32), .int (1 : Int32), .int (4 : Int32)])), ((u32.1 0), .inl (cA2, 16, .inl (fun _ => 0))), (q34, .inr (3, [.ref (u39.1 0), .int (0 : Int32), .int (0 : Int32), .int (1 : Int32), .int (4 : Int32)])), ((u39.1 0), .inl (cA2, 16, .inl (fun _ => 0))), (q41, .inr (3, [.ref (u46.1 0), .int (0 : Int32), .int (0 : Int32), .int (1 : Int32), .int (4 : Int32)])), ((u46.1 0), .inl (cA2, 16, .inl (fun _ => 0))), (q48, .inr (3, [.ref (u53.1 0), .int (0 : Int32), .int (0 : Int32), .int (1 : Int32), .int (4 : Int32)])), ((u53.1 0), .inl (cA2, 16, .inl (fun _ => 0)))] := hD
  refine lv_iinc (v := 9) (lv' := [(1, .int (9 : Int32)), (0, .ref h0)]) hx hb dX10_init_87 hl (k := 0) rfl (by decide +kernel) (by decide) rfl (fun ls hl => ?_)
  refine lv_goto (tgt := 74) hx hb dX10_init_90 (by decide) ?_
  refine lv_iload_n hx hb dX10_init_74 rfl (lv_at hl 0 rfl) ?_
  refine lv_bipush (v := 12) hx hb dX10_init_75 (by decide +kernel) ?_
  refine lv_icmp_ge (tgt := 93) hx hb dX10_init_77 (by decide) (fun hc => absurd hc (by decide)) (fun hc => ?_)
  refine lv_aload_n hx hb dX10_init_80 rfl (lv_at hl 1 rfl) ?_
  refine va_get (D := D) (ci := 10) (v := .ref q5) (C := RX10) (T := TX10) (N := 6) hx hb hts hiX10 hown hK hP 0 rfl rfl 1 (by decide) lk5 (fun _ h => h) rfl dX10_init_81 ?_
  refine lv_iload_n hx hb dX10_init_84 rfl (lv_at hl 0 rfl) ?_
  refine lv_iconst (v := 1) hx hb dX10_init_85 (by decide +kernel) ?_
  refine va_iast (D := D) hx hb hK hP hD hS 2 0 rfl rfl (by unfold vp_in; decide) dX10_init_86 (fun H locs hP hD hS => ?_)
  have hP : va_P D vwCl [(h0, .inr (10, [.ref q1, .ref q5, .ref q9, .int (0 : Int32), .int (0 : Int32), .int (1 : Int32)])), (q1, .inl (cA2, 200, .inl (fun _ => 0))), (q5, .inl (cA2, 12, .inl (upd (upd (upd (upd (upd (upd (upd (upd (upd (upd (fun _ => 0) 0 (1 : Int32)) 1 (1 : Int32)) 2 (1 : Int32)) 3 (1 : Int32)) 4 (1 : Int32)) 5 (1 : Int32)) 6 (1 : Int32)) 7 (1 : Int32)) 8 (1 : Int32)) 9 (1 : Int32)))), (q9, .inl (cA10, 6, .inr (.inr (.inr (.inr (va_up (va_up (va_up (va_up (va_up (va_up (fun _ => none) 0 (some q13)) 1 (some q20)) 2 (some q27)) 3 (some q34)) 4 (some q41)) 5 (some q48))))))), (q13, .inr (3, [.ref (u18.1 0), .int (0 : Int32), .int (0 : Int32), .int (1 : Int32), .int (4 : Int32)])), ((u18.1 0), .inl (cA2, 16, .inl (fun _ => 0))), (q20, .inr (3, [.ref (u25.1 0), .int (0 : Int32), .int (0 : Int32), .int (1 : Int32), .int (4 : Int32)])), ((u25.1 0), .inl (cA2, 16, .inl (fun _ => 0))), (q27, .inr (3, [.ref (u32.1 0), .int (0 : Int32), .int (0 : Int32), .int (1 : Int32), .int (4 : Int32)])), ((u32.1 0), .inl (cA2, 16, .inl (fun _ => 0))), (q34, .inr (3, [.ref (u39.1 0), .int (0 : Int32), .int (0 : Int32), .int (1 : Int32), .int (4 : Int32)])), ((u39.1 0), .inl (cA2, 16, .inl (fun _ => 0))), (q41, .inr (3, [.ref (u46.1 0), .int (0 : Int32), .int (0 : Int32), .int (1 : Int32), .int (4 : Int32)])), ((u46.1 0), .inl (cA2, 16, .inl (fun _ => 0))), (q48, .inr (3, [.ref (u53.1 0), .int (0 : Int32), .int (0 : Int32), .int (1 : Int32), .int (4 : Int32)])), ((u53.1 0), .inl (cA2, 16, .inl (fun _ => 0)))] H := hP
  have hD : va_D A [(h0, .inr (10, [.ref q1, .ref q5, .ref q9, .int (0 : Int32), .int (0 : Int32), .int (1 : Int32)])), (q1, .inl (cA2, 200, .inl (fun _ => 0))), (q5, .inl (cA2, 12, .inl (upd (upd (upd (upd (upd (upd (upd (upd (upd (upd (fun _ => 0) 0 (1 : Int32)) 1 (1 : Int32)) 2 (1 : Int32)) 3 (1 : Int32)) 4 (1 : Int32)) 5 (1 : Int32)) 6 (1 : Int32)) 7 (1 : Int32)) 8 (1 : Int32)) 9 (1 : Int32)))), (q9, .inl (cA10, 6, .inr (.inr (.inr (.inr (va_up (va_up (va_up (va_up (va_up (va_up (fun _ => none) 0 (some q13)) 1 (some q20)) 2 (some q27)) 3 (some q34)) 4 (some q41)) 5 (some q48))))))), (q13, .inr (3, [.ref (u18.1 0), .int (0 : Int32), .int (0 : Int32), .int (1 : Int32), .int (4 : Int32)])), ((u18.1 0), .inl (cA2, 16, .inl (fun _ => 0))), (q20, .inr (3, [.ref (u25.1 0), .int (0 : Int32), .int (0 : Int32), .int (1 : Int32), .int (4 : Int32)])), ((u25.1 0), .inl (cA2, 16, .inl (fun _ => 0))), (q27, .inr (3, [.ref (u32.1 0), .int (0 : Int32), .int (0 : Int32), .int (1 : Int32), .int (4 : Int32)])), ((u32.1 0), .inl (cA2, 16, .inl (fun _ => 0))), (q34, .inr (3, [.ref (u39.1 0), .int (0 : Int32), .int (0 : Int32), .int (1 : Int32), .int (4 : Int32)])), ((u39.1 0), .inl (cA2, 16, .inl (fun _ => 0))), (q41, .inr (3, [.ref (u46.1 0), .int (0 : Int32), .int (0 : Int32), .int (1 : Int32), .int (4 : Int32)])), ((u46.1 0), .inl (cA2, 16, .inl (fun _ => 0))), (q48, .inr (3, [.ref (u53.1 0), .int (0 : Int32), .int (0 : Int32), .int (1 : Int32), .int (4 : Int32)])), ((u53.1 0), .inl (cA2, 16, .inl (fun _ => 0)))] := hD
  refine lv_iinc (v := 10) (lv' := [(1, .int (10 : Int32)), (0, .ref h0)]) hx hb dX10_init_87 hl (k := 0) rfl (by decide +kernel) (by decide) rfl (fun ls hl => ?_)
  refine lv_goto (tgt := 74) hx hb dX10_init_90 (by decide) ?_
  refine lv_iload_n hx hb dX10_init_74 rfl (lv_at hl 0 rfl) ?_
  refine lv_bipush (v := 12) hx hb dX10_init_75 (by decide +kernel) ?_
  refine lv_icmp_ge (tgt := 93) hx hb dX10_init_77 (by decide) (fun hc => absurd hc (by decide)) (fun hc => ?_)
  refine lv_aload_n hx hb dX10_init_80 rfl (lv_at hl 1 rfl) ?_
  refine va_get (D := D) (ci := 10) (v := .ref q5) (C := RX10) (T := TX10) (N := 6) hx hb hts hiX10 hown hK hP 0 rfl rfl 1 (by decide) lk5 (fun _ h => h) rfl dX10_init_81 ?_
  refine lv_iload_n hx hb dX10_init_84 rfl (lv_at hl 0 rfl) ?_
  refine lv_iconst (v := 1) hx hb dX10_init_85 (by decide +kernel) ?_
  refine va_iast (D := D) hx hb hK hP hD hS 2 0 rfl rfl (by unfold vp_in; decide) dX10_init_86 (fun H locs hP hD hS => ?_)
  have hP : va_P D vwCl [(h0, .inr (10, [.ref q1, .ref q5, .ref q9, .int (0 : Int32), .int (0 : Int32), .int (1 : Int32)])), (q1, .inl (cA2, 200, .inl (fun _ => 0))), (q5, .inl (cA2, 12, .inl (upd (upd (upd (upd (upd (upd (upd (upd (upd (upd (upd (fun _ => 0) 0 (1 : Int32)) 1 (1 : Int32)) 2 (1 : Int32)) 3 (1 : Int32)) 4 (1 : Int32)) 5 (1 : Int32)) 6 (1 : Int32)) 7 (1 : Int32)) 8 (1 : Int32)) 9 (1 : Int32)) 10 (1 : Int32)))), (q9, .inl (cA10, 6, .inr (.inr (.inr (.inr (va_up (va_up (va_up (va_up (va_up (va_up (fun _ => none) 0 (some q13)) 1 (some q20)) 2 (some q27)) 3 (some q34)) 4 (some q41)) 5 (some q48))))))), (q13, .inr (3, [.ref (u18.1 0), .int (0 : Int32), .int (0 : Int32), .int (1 : Int32), .int (4 : Int32)])), ((u18.1 0), .inl (cA2, 16, .inl (fun _ => 0))), (q20, .inr (3, [.ref (u25.1 0), .int (0 : Int32), .int (0 : Int32), .int (1 : Int32), .int (4 : Int32)])), ((u25.1 0), .inl (cA2, 16, .inl (fun _ => 0))), (q27, .inr (3, [.ref (u32.1 0), .int (0 : Int32), .int (0 : Int32), .int (1 : Int32), .int (4 : Int32)])), ((u32.1 0), .inl (cA2, 16, .inl (fun _ => 0))), (q34, .inr (3, [.ref (u39.1 0), .int (0 : Int32), .int (0 : Int32), .int (1 : Int32), .int (4 : Int32)])), ((u39.1 0), .inl (cA2, 16, .inl (fun _ => 0))), (q41, .inr (3, [.ref (u46.1 0), .int (0 : Int32), .int (0 : Int32), .int (1 : Int32), .int (4 : Int32)])), ((u46.1 0), .inl (cA2, 16, .inl (fun _ => 0))), (q48, .inr (3, [.ref (u53.1 0), .int (0 : Int32), .int (0 : Int32), .int (1 : Int32), .int (4 : Int32)])), ((u53.1 0), .inl (cA2, 16, .inl (fun _ => 0)))] H := hP
  have hD : va_D A [(h0, .inr (10, [.ref q1, .ref q5, .ref q9, .int (0 : Int32), .int (0 : Int32), .int (1 : Int32)])), (q1, .inl (cA2, 200, .inl (fun _ => 0))), (q5, .inl (cA2, 12, .inl (upd (upd (upd (upd (upd (upd (upd (upd (upd (upd (upd (fun _ => 0) 0 (1 : Int32)) 1 (1 : Int32)) 2 (1 : Int32)) 3 (1 : Int32)) 4 (1 : Int32)) 5 (1 : Int32)) 6 (1 : Int32)) 7 (1 : Int32)) 8 (1 : Int32)) 9 (1 : Int32)) 10 (1 : Int32)))), (q9, .inl (cA10, 6, .inr (.inr (.inr (.inr (va_up (va_up (va_up (va_up (va_up (va_up (fun _ => none) 0 (some q13)) 1 (some q20)) 2 (some q27)) 3 (some q34)) 4 (some q41)) 5 (some q48))))))), (q13, .inr (3, [.ref (u18.1 0), .int (0 : Int32), .int (0 : Int32), .int (1 : Int32), .int (4 : Int32)])), ((u18.1 0), .inl (cA2, 16, .inl (fun _ => 0))), (q20, .inr (3, [.ref (u25.1 0), .int (0 : Int32), .int (0 : Int32), .int (1 : Int32), .int (4 : Int32)])), ((u25.1 0), .inl (cA2, 16, .inl (fun _ => 0))), (q27, .inr (3, [.ref (u32.1 0), .int (0 : Int32), .int (0 : Int32), .int (1 : Int32), .int (4 : Int32)])), ((u32.1 0), .inl (cA2, 16, .inl (fun _ => 0))), (q34, .inr (3, [.ref (u39.1 0), .int (0 : Int32), .int (0 : Int32), .int (1 : Int32), .int (4 : Int32)])), ((u39.1 0), .inl (cA2, 16, .inl (fun _ => 0))), (q41, .inr (3, [.ref (u46.1 0), .int (0 : Int32), .int (0 : Int32), .int (1 : Int32), .int (4 : Int32)])), ((u46.1 0), .inl (cA2, 16, .inl (fun _ => 0))), (q48, .inr (3, [.ref (u53.1 0), .int (0 : Int32), .int (0 : Int32), .int (1 : Int32), .int (4 : Int32)])), ((u53.1 0), .inl (cA2, 16, .inl (fun _ => 0)))] := hD
  refine lv_iinc (v := 11) (lv' := [(1, .int (11 : Int32)), (0, .ref h0)]) hx hb dX10_init_87 hl (k := 0) rfl (by decide +kernel) (by decide) rfl (fun ls hl => ?_)
  refine lv_goto (tgt := 74) hx hb dX10_init_90 (by decide) ?_
  refine lv_iload_n hx hb dX10_init_74 rfl (lv_at hl 0 rfl) ?_
  refine lv_bipush (v := 12) hx hb dX10_init_75 (by decide +kernel) ?_
  refine lv_icmp_ge (tgt := 93) hx hb dX10_init_77 (by decide) (fun hc => absurd hc (by decide)) (fun hc => ?_)
  refine lv_aload_n hx hb dX10_init_80 rfl (lv_at hl 1 rfl) ?_
  refine va_get (D := D) (ci := 10) (v := .ref q5) (C := RX10) (T := TX10) (N := 6) hx hb hts hiX10 hown hK hP 0 rfl rfl 1 (by decide) lk5 (fun _ h => h) rfl dX10_init_81 ?_
  refine lv_iload_n hx hb dX10_init_84 rfl (lv_at hl 0 rfl) ?_
  refine lv_iconst (v := 1) hx hb dX10_init_85 (by decide +kernel) ?_
  refine va_iast (D := D) hx hb hK hP hD hS 2 0 rfl rfl (by unfold vp_in; decide) dX10_init_86 (fun H locs hP hD hS => ?_)
  have hP : va_P D vwCl [(h0, .inr (10, [.ref q1, .ref q5, .ref q9, .int (0 : Int32), .int (0 : Int32), .int (1 : Int32)])), (q1, .inl (cA2, 200, .inl (fun _ => 0))), (q5, .inl (cA2, 12, .inl (upd (upd (upd (upd (upd (upd (upd (upd (upd (upd (upd (upd (fun _ => 0) 0 (1 : Int32)) 1 (1 : Int32)) 2 (1 : Int32)) 3 (1 : Int32)) 4 (1 : Int32)) 5 (1 : Int32)) 6 (1 : Int32)) 7 (1 : Int32)) 8 (1 : Int32)) 9 (1 : Int32)) 10 (1 : Int32)) 11 (1 : Int32)))), (q9, .inl (cA10, 6, .inr (.inr (.inr (.inr (va_up (va_up (va_up (va_up (va_up (va_up (fun _ => none) 0 (some q13)) 1 (some q20)) 2 (some q27)) 3 (some q34)) 4 (some q41)) 5 (some q48))))))), (q13, .inr (3, [.ref (u18.1 0), .int (0 : Int32), .int (0 : Int32), .int (1 : Int32), .int (4 : Int32)])), ((u18.1 0), .inl (cA2, 16, .inl (fun _ => 0))), (q20, .inr (3, [.ref (u25.1 0), .int (0 : Int32), .int (0 : Int32), .int (1 : Int32), .int (4 : Int32)])), ((u25.1 0), .inl (cA2, 16, .inl (fun _ => 0))), (q27, .inr (3, [.ref (u32.1 0), .int (0 : Int32), .int (0 : Int32), .int (1 : Int32), .int (4 : Int32)])), ((u32.1 0), .inl (cA2, 16, .inl (fun _ => 0))), (q34, .inr (3, [.ref (u39.1 0), .int (0 : Int32), .int (0 : Int32), .int (1 : Int32), .int (4 : Int32)])), ((u39.1 0), .inl (cA2, 16, .inl (fun _ => 0))), (q41, .inr (3, [.ref (u46.1 0), .int (0 : Int32), .int (0 : Int32), .int (1 : Int32), .int (4 : Int32)])), ((u46.1 0), .inl (cA2, 16, .inl (fun _ => 0))), (q48, .inr (3, [.ref (u53.1 0), .int (0 : Int32), .int (0 : Int32), .int (1 : Int32), .int (4 : Int32)])), ((u53.1 0), .inl (cA2, 16, .inl (fun _ => 0)))] H := hP
  have hD : va_D A [(h0, .inr (10, [.ref q1, .ref q5, .ref q9, .int (0 : Int32), .int (0 : Int32), .int (1 : Int32)])), (q1, .inl (cA2, 200, .inl (fun _ => 0))), (q5, .inl (cA2, 12, .inl (upd (upd (upd (upd (upd (upd (upd (upd (upd (upd (upd (upd (fun _ => 0) 0 (1 : Int32)) 1 (1 : Int32)) 2 (1 : Int32)) 3 (1 : Int32)) 4 (1 : Int32)) 5 (1 : Int32)) 6 (1 : Int32)) 7 (1 : Int32)) 8 (1 : Int32)) 9 (1 : Int32)) 10 (1 : Int32)) 11 (1 : Int32)))), (q9, .inl (cA10, 6, .inr (.inr (.inr (.inr (va_up (va_up (va_up (va_up (va_up (va_up (fun _ => none) 0 (some q13)) 1 (some q20)) 2 (some q27)) 3 (some q34)) 4 (some q41)) 5 (some q48))))))), (q13, .inr (3, [.ref (u18.1 0), .int (0 : Int32), .int (0 : Int32), .int (1 : Int32), .int (4 : Int32)])), ((u18.1 0), .inl (cA2, 16, .inl (fun _ => 0))), (q20, .inr (3, [.ref (u25.1 0), .int (0 : Int32), .int (0 : Int32), .int (1 : Int32), .int (4 : Int32)])), ((u25.1 0), .inl (cA2, 16, .inl (fun _ => 0))), (q27, .inr (3, [.ref (u32.1 0), .int (0 : Int32), .int (0 : Int32), .int (1 : Int32), .int (4 : Int32)])), ((u32.1 0), .inl (cA2, 16, .inl (fun _ => 0))), (q34, .inr (3, [.ref (u39.1 0), .int (0 : Int32), .int (0 : Int32), .int (1 : Int32), .int (4 : Int32)])), ((u39.1 0), .inl (cA2, 16, .inl (fun _ => 0))), (q41, .inr (3, [.ref (u46.1 0), .int (0 : Int32), .int (0 : Int32), .int (1 : Int32), .int (4 : Int32)])), ((u46.1 0), .inl (cA2, 16, .inl (fun _ => 0))), (q48, .inr (3, [.ref (u53.1 0), .int (0 : Int32), .int (0 : Int32), .int (1 : Int32), .int (4 : Int32)])), ((u53.1 0), .inl (cA2, 16, .inl (fun _ => 0)))] := hD
  refine lv_iinc (v := 12) (lv' := [(1, .int (12 : Int32)), (0, .ref h0)]) hx hb dX10_init_87 hl (k := 0) rfl (by decide +kernel) (by decide) rfl (fun ls hl => ?_)
  refine lv_goto (tgt := 74) hx hb dX10_init_90 (by decide) ?_
  refine lv_iload_n hx hb dX10_init_74 rfl (lv_at hl 0 rfl) ?_
  refine lv_bipush (v := 12) hx hb dX10_init_75 (by decide +kernel) ?_
  refine lv_icmp_ge (tgt := 93) hx hb dX10_init_77 (by decide) (fun hc => ?_) (fun hc => absurd (by decide) hc)
  exact W.vret hx hb hr (fun t ht hW => ⟨⟨(fun j => ([q1, q5, q9, q13, (u18.1 0), q20, (u25.1 0), q27, (u32.1 0), q34, (u39.1 0), q41, (u46.1 0), q48, (u53.1 0)] : List Nat).getD j 0, fun j => ([cA2, cA10] : List ClassId).getD j 0), rfl, trivial, by rw [ht]; exact hP, va_K.moved hW.alike hK, hD⟩, hS.F ht⟩) hS.2.2 dX10_init_93 hlocks
