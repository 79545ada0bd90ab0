/-! STRINGS: the eleven constants of the quarry, by their places; the JDK's methods that they are asked with. -/
def sTab : List (Nat × String × Nat) := [(74, "pane", 0), (76, "thick", 1), (78, "double", 2), (80, "dark", 3), (82, "rippled", 4), (84, "mirror", 5), (94, "at", 6), (100, "from", 7), (43, "view", 8), (52, "love", 9), (57, "today", 10)]
def sLen : List Nat := [4, 5, 6, 4, 7, 6, 2, 4, 4, 4, 5]
def sByt : List (List Int32) := [[112, 97, 110, 101], [116, 104, 105, 99, 107], [100, 111, 117, 98, 108, 101], [100, 97, 114, 107], [114, 105, 112, 112, 108, 101, 100], [109, 105, 114, 114, 111, 114], [97, 116], [102, 114, 111, 109], [118, 105, 101, 119], [108, 111, 118, 101], [116, 111, 100, 97, 121]]
def txL (i : Nat) : Nat := sLen.getD i 0
def txC (i k : Nat) : Int32 := ((((sByt.getD i []).getD k 0) &&& 255).toUInt32 % 65536).toInt32
theorem txC_n : ∀ i, i < 11 → ∀ k, k < txL i → narrow .char (.int (txC i k)) = .int (txC i k) := by decide +kernel
def SX (adK adV : Nat → Nat) (A : Nat → Prop) (U : State) (H : Heap) : Prop := va_Z "java/lang/String" "COMPACT_STRINGS" "Z" (.int 1) A U H ∧ va_Zq "jdk/internal/util/Preconditions" "SIOOBE_FORMATTER" "Ljava/util/function/BiFunction;" A U H ∧ vk_S 11 sLen sByt adK adV A U H ∧ ∀ t ∈ sTab, vk_R RX4 t.1 t.2.1 (adK t.2.2) U
theorem SX.go {adK adV : Nat → Nat} {A : Nat → Prop} {s U : State} {H0 H : Heap} (h : SX adK adV A s H0) (hW : s.WarmedH U.vm) (hq : ∀ a : Nat, a < H0.size → ¬ A a → H[a]? = H0[a]?) : SX adK adV A U H :=
  ⟨(h.1.moved hW.alike).kept hq, (h.2.1.moved hW.alike).kept hq, (h.2.2.1.moved hW.alike).kept hq, fun t ht => (h.2.2.2 t ht).warm hW⟩
theorem SX.call {adK adV : Nat → Nat} {A : Nat → Prop} {U : State} (h : SX adK adV A U U.heap) (a : Array Value) (g : JFrame) (mk : MethodId) : SX adK adV A (U.calling g mk a) (U.calling g mk a).heap :=
  ⟨h.1.moved (U := U.calling g mk a) (Vm.Alike.refl U.vm), h.2.1.moved (U := U.calling g mk a) (Vm.Alike.refl U.vm), h.2.2.1.moved (U := U.calling g mk a) (Vm.Alike.refl U.vm), fun t ht => (h.2.2.2 t ht).same rfl⟩
/-- nothing old is written -/
def nA : Nat → Prop := fun _ => False
theorem nA_S {A : Nat → Prop} {H0 H : Heap} {locs : List Loc} (h : va_S nA H0 H locs) : va_S A H0 H locs := ⟨h.1, fun q h1 _ => h.2.1 q h1 (fun z => z), fun l hl => (h.2.2 l hl).elim⟩
def CJ (l : Launch) (y : MethodName) (ws : List Cond) (F L : Nat) (adK adV : Nat → Nat) (A : Nat → Prop) (av : List Value) (v : Int32) : Prop :=
  Met l y ws { frames := F, cells := 0, slots := 0, locals := L } (va_Pc av (fun U => SX adK adV A U U.heap)) (va_Qi (fun r (_ : Unit) => r = v) (fun _ _ => True) nA) 0 0 nA
theorem j_blind {adK adV : Nat → Nat} {A : Nat → Prop} {av : List Value} : FrameBlind (va_Pc av (fun U => SX adK adV A U U.heap)) := fun a U g mk h => ⟨h.1, h.2.call a g mk⟩
section JR
variable {p : Program} {lc : Launch} {e : Env} {R : Room} {s : State} {m : MethodId} {args : Array Value} {below : List Frame} {meth : Method} {c : Code} {H H0 : Heap} {locs : List Loc} {cells slots : Nat} {Qw : State → Prop}
variable {pc : Nat} {ls : Array Slot} {rest st0 : List Value} {a : Array Value} {adK adV : Nat → Nat} {A : Nat → Prop}
theorem j_pre (hX : SX adK adV A s s.heap) (hS : va_S A s.heap H locs) {av : List Value} : ∀ U : State, U.heap = H → s.WarmedH U.vm → va_Pc av (fun U => SX adK adV A U U.heap) av.toArray U :=
  fun U hU hW => ⟨rfl, hX.go hW (by rw [hU]; exact hS.2.1)⟩
/-- behind a call of the JDK's in a method that writes nothing -/
theorem j_aft {v : Int32} (hr : va_Run p lc e R s m args below meth c H locs cells slots 0 0 (F0 m pc ls st0) rest (va_Qi (fun r (_ : Unit) => r = v) (fun _ _ => True) nA a) nA) (hS : va_S nA s.heap H locs)
    (kk : ∀ (H1 : Heap) (locs1 : List Loc), va_S nA s.heap H1 locs1 → W p lc e R s m args below meth c H1 locs1 cells slots Qw (F0 m (pc + 3) ls (.int v :: rest))) : W p lc e R s m args below meth c H locs cells slots Qw (F0 m pc ls st0) :=
  va_calli hr hS (fun _ _ h => h) (fun _ h => h) (fun r u t H1 locs1 ht hvm hp hb hz hk hS => by
    subst hp
    exact kk H1 locs1 hS)
/-- behind a call of the JDK's in a walk of ours: the picture stays -/
theorem k_aftJ {D : va_G} {E : Ety} {ly : Nat → Nat} {n : List Nat} {S : St} {v : Int32} (hr : va_Run p lc e R s m args below meth c H locs cells slots 0 0 (F0 m pc ls st0) rest (va_Qi (fun r (_ : Unit) => r = v) (fun _ _ => True) nA a) nA) (hH : Hp D E ly n A H0 S H locs)
    (kk : ∀ (H1 : Heap) (locs1 : List Loc), Hp D E ly n A H0 S H1 locs1 → W p lc e R s m args below meth c H1 locs1 cells slots Qw (F0 m (pc + 3) ls (.int v :: rest))) : W p lc e R s m args below meth c H locs cells slots Qw (F0 m pc ls st0) :=
  va_calli hr hH.2.2 (fun _ _ h => h.elim) (fun _ h => h.elim) (fun r u t H1 locs1 ht hvm hp hb hz hk hS => by
    subst hp
    exact kk H1 locs1 ⟨hH.1.kept (fun k q hq => hk q.1 ((hH.1 k q hq).lt) (fun z => z)), hH.2.1, hS⟩)
end JR
set_option maxHeartbeats 4000000 in
set_option maxRecDepth 100000 in
theorem j_coder (l : Launch) (adK adV : Nat → Nat) (A : Nat → Prop) (i : Nat) (hi : i < 11) : CJ l yJ0_coder_7d493 wsJ0_coder_7d493 0 0 adK adV A [.ref (adK i)] 0 := by
  refine Met.ofW (cc := cJ0_coder_7d493) (maxL := 1) (ret := (some .byte)) (by decide) rfl ?_
  intro p e s m args below meth c s₁ B hml hv
  obtain ⟨rfl, hX⟩ := hv
  have hx := B.exec
  have hb := B.bytes
  have hr := B.returns
  have hts := atoms_spec (ws := wsJ0_coder_7d493) B.pre
  have hown : s.vm.findClass RJ0 = some m.cls := findClass_of_methodNamed B.named
  have hlocks := B.notSynchronized
  have hS : va_S nA s.heap s.heap [] := va_S.rf
  have hl := lv_entry ([.ref (adK i)]) (n := 1) (Nat.le_of_ble_eq_true rfl)
  rw [lg_entry_eq]
  generalize (lg_sl ([.ref (adK i)]) ++ List.replicate (1 - (lg_sl ([.ref (adK i)])).length) Slot.unset).toArray = ls at hl ⊢
  have hl : lv_has ls 1 [(0, .ref (adK i))] := hl
  refine va_gets hx hb hX.1 (nA_S hS) hown (hts (.fieldLink RJ0 38 "java/lang/String" "COMPACT_STRINGS" "Z") (by decide +kernel)) (fun _ h => h) dJ0_coder_7d493_0 ?_
  refine lv_if_eq (tgt := 13) hx hb dJ0_coder_7d493_3 (by decide) (fun hc => absurd hc (by decide)) (fun _ => ?_)
  refine lv_aload_n hx hb dJ0_coder_7d493_6 rfl (lv_at hl 0 rfl) ?_
  refine vk_getf hx hb (hX.2.2.1.1 i hi).2.1 (nA_S hS) hown (hts (.fieldLink RJ0 15 "java/lang/String" "coder" "B") (by decide +kernel)) (fun _ h => h) dJ0_coder_7d493_7 ?_
  refine lv_goto (tgt := 14) hx hb dJ0_coder_7d493_10 (by decide) ?_
  exact W.zret hx hb hr rfl (fun t ht hW => ⟨⟨0, (), rfl, rfl, trivial⟩, hS.F ht⟩) hS.2.2 dJ0_coder_7d493_14 hlocks
set_option maxHeartbeats 4000000 in
set_option maxRecDepth 100000 in
theorem j_isLatin1 (l : Launch) (adK adV : Nat → Nat) (A : Nat → Prop) (i : Nat) (hi : i < 11) : CJ l yJ0_isLatin1_aae02 wsJ0_isLatin1_aae02 0 0 adK adV A [.ref (adK i)] 1 := by
  refine Met.ofW (cc := cJ0_isLatin1_aae02) (maxL := 1) (ret := (some .boolean)) (by decide) rfl ?_
  intro p e s m args below meth c s₁ B hml hv
  obtain ⟨rfl, hX⟩ := hv
  have hx := B.exec
  have hb := B.bytes
  have hr := B.returns
  have hts := atoms_spec (ws := wsJ0_isLatin1_aae02) B.pre
  have hown : s.vm.findClass RJ0 = some m.cls := findClass_of_methodNamed B.named
  have hlocks := B.notSynchronized
  have hS : va_S nA s.heap s.heap [] := va_S.rf
  have hl := lv_entry ([.ref (adK i)]) (n := 1) (Nat.le_of_ble_eq_true rfl)
  rw [lg_entry_eq]
  generalize (lg_sl ([.ref (adK i)]) ++ List.replicate (1 - (lg_sl ([.ref (adK i)])).length) Slot.unset).toArray = ls at hl ⊢
  have hl : lv_has ls 1 [(0, .ref (adK i))] := hl
  refine va_gets hx hb hX.1 (nA_S hS) hown (hts (.fieldLink RJ0 38 "java/lang/String" "COMPACT_STRINGS" "Z") (by decide +kernel)) (fun _ h => h) dJ0_isLatin1_aae02_0 ?_
  refine lv_if_eq (tgt := 17) hx hb dJ0_isLatin1_aae02_3 (by decide) (fun hc => absurd hc (by decide)) (fun _ => ?_)
  refine lv_aload_n hx hb dJ0_isLatin1_aae02_6 rfl (lv_at hl 0 rfl) ?_
  refine vk_getf hx hb (hX.2.2.1.1 i hi).2.1 (nA_S hS) hown (hts (.fieldLink RJ0 15 "java/lang/String" "coder" "B") (by decide +kernel)) (fun _ h => h) dJ0_isLatin1_aae02_7 ?_
  refine lv_if_ne (tgt := 17) hx hb dJ0_isLatin1_aae02_10 (by decide) (fun hc => absurd rfl hc) (fun _ => ?_)
  refine lv_iconst (v := 1) hx hb dJ0_isLatin1_aae02_13 (by decide +kernel) ?_
  refine lv_goto (tgt := 18) hx hb dJ0_isLatin1_aae02_14 (by decide) ?_
  exact W.zret hx hb hr rfl (fun t ht hW => ⟨⟨1, (), rfl, rfl, trivial⟩, hS.F ht⟩) hS.2.2 dJ0_isLatin1_aae02_18 hlocks
set_option maxHeartbeats 4000000 in
set_option maxRecDepth 100000 in
theorem j_length (l : Launch) (adK adV : Nat → Nat) (A : Nat → Prop) (i : Nat) (hi : i < 11) : CJ l yJ0_length_8abf5 wsJ0_length_8abf5 1 20 adK adV A [.ref (adK i)] (Int32.ofNat (txL i)) := by
  refine Met.ofW (cc := cJ0_length_8abf5) (maxL := 1) (ret := (some .int)) (by decide) rfl ?_
  intro p e s m args below meth c s₁ B hml hv
  obtain ⟨rfl, hX⟩ := hv
  have hx := B.exec
  have hb := B.bytes
  have hr := B.returns
  have hts := atoms_spec (ws := wsJ0_length_8abf5) B.pre
  have hown : s.vm.findClass RJ0 = some m.cls := findClass_of_methodNamed B.named
  have hlocks := B.notSynchronized
  have hS : va_S nA s.heap s.heap [] := va_S.rf
  have hl := lv_entry ([.ref (adK i)]) (n := 1) (Nat.le_of_ble_eq_true rfl)
  rw [lg_entry_eq]
  generalize (lg_sl ([.ref (adK i)]) ++ List.replicate (1 - (lg_sl ([.ref (adK i)])).length) Slot.unset).toArray = ls at hl ⊢
  have hl : lv_has ls 1 [(0, .ref (adK i))] := hl
  refine lv_aload_n hx hb dJ0_length_8abf5_0 rfl (lv_at hl 0 rfl) ?_
  refine vk_getf hx hb (hX.2.2.1.1 i hi).2.2.1 (nA_S hS) hown (hts (.fieldLink RJ0 9 "java/lang/String" "value" "[B") (by decide +kernel)) (fun _ h => h) dJ0_length_8abf5_1 ?_
  refine va_tlen (v := Int32.ofNat (txL i)) hx hb (hX.2.2.1.1 i hi).2.2.2 (nA_S hS) rfl dJ0_length_8abf5_4 ?_
  refine lv_aload_n hx hb dJ0_length_8abf5_5 rfl (lv_at hl 0 rfl) ?_
  refine j_aft (va_runV (As := []) (rest := [.int (Int32.ofNat (txL i))]) ⟨hx, hb, hml, hown, hts⟩ (j_coder l adK adV A i hi) (cwV 0 hts gJ0_length_8abf5_J0_coder_7d493 rfl rfl rfl (by decide +kernel) ⟨Nat.le_of_ble_eq_true rfl, Nat.le_of_ble_eq_true rfl⟩) ⟨j_blind, vk_recv hX.2.2.1 hi (nA_S hS), j_pre hX (nA_S hS)⟩ rfl rfl hl.1 rfl (lv_room (Nat.le_of_ble_eq_true rfl)) dJ0_length_8abf5_6 ⟨Nat.le_refl _, Nat.le_refl _⟩) hS (fun H locs hS => ?_)
  refine lv_ishr hx hb dJ0_length_8abf5_9 ?_
  have e0 : ∀ x : Int32, x >>> ((0 : Int32) &&& 31) = x := fun x => by rw [show ((0 : Int32) &&& 31) = 0 from by decide]; exact Int32.shiftRight_zero
  rw [e0]
  exact W.iret hx hb hr (fun t ht hW => ⟨⟨_, (), rfl, rfl, trivial⟩, hS.F ht⟩) hS.2.2 dJ0_length_8abf5_10 hlocks
set_option maxHeartbeats 4000000 in
set_option maxRecDepth 100000 in
theorem j_pci (l : Launch) (adK adV : Nat → Nat) (A : Nat → Prop) (x k : Int32) (o : Option Nat) (h0 : ¬ x < 0) (h1 : x < k) : CJ l yJ3_checkIndex_8e157 wsJ3_checkIndex_8e157 0 0 adK adV A [.int x, .int k, va_rf o] x := by
  refine Met.ofW (cc := cJ3_checkIndex_8e157) (maxL := 3) (ret := (some .int)) (by decide) rfl ?_
  intro p e s m args below meth c s₁ B hml hv
  obtain ⟨rfl, hX⟩ := hv
  have hx := B.exec
  have hb := B.bytes
  have hr := B.returns
  have hlocks := B.notSynchronized
  have hS : va_S nA s.heap s.heap [] := va_S.rf
  have hl : ∃ ls : Array Slot, entryFrame m ([.int x, .int k, va_rf o] : List Value).toArray 3 = F0 m 0 ls [] ∧ lv_has ls 3 [(0, .int x), (1, .int k)] := by
    refine ⟨_, lg_entry_eq m _ 3, ?_⟩
    cases o with
    | none => exact lv_sub (lv_entry ([.int x, .int k, .null]) (n := 3) (Nat.le_of_ble_eq_true rfl)) [0, 1] rfl
    | some t => exact lv_sub (lv_entry ([.int x, .int k, .ref t]) (n := 3) (Nat.le_of_ble_eq_true rfl)) [0, 1] rfl
  obtain ⟨ls, e1, hl⟩ := hl
  rw [e1]
  refine lv_iload_n hx hb dJ3_checkIndex_8e157_0 rfl (lv_at hl 0 rfl) ?_
  refine lv_if_lt (tgt := 9) hx hb dJ3_checkIndex_8e157_1 (by decide) (fun hc => absurd hc h0) (fun _ => ?_)
  refine lv_iload_n hx hb dJ3_checkIndex_8e157_4 rfl (lv_at hl 0 rfl) ?_
  refine lv_iload_n hx hb dJ3_checkIndex_8e157_5 rfl (lv_at hl 1 rfl) ?_
  refine lv_icmp_lt (tgt := 16) hx hb dJ3_checkIndex_8e157_6 (by decide) (fun _ => ?_) (fun hc => absurd h1 hc)
  refine lv_iload_n hx hb dJ3_checkIndex_8e157_16 rfl (lv_at hl 0 rfl) ?_
  exact W.iret hx hb hr (fun t ht hW => ⟨⟨_, (), rfl, rfl, trivial⟩, hS.F ht⟩) hS.2.2 dJ3_checkIndex_8e157_17 hlocks
/-- a JDK method without an answer -/
def CJv (l : Launch) (y : MethodName) (ws : List Cond) (F L : Nat) (adK adV : Nat → Nat) (A : Nat → Prop) (av : List Value) : Prop :=
  Met l y ws { frames := F, cells := 0, slots := 0, locals := L } (va_Pc av (fun U => SX adK adV A U U.heap)) (va_Qv (fun (_ : Unit) => True) (fun _ _ => True) nA) 0 0 nA
section JR2
variable {p : Program} {lc : Launch} {e : Env} {R : Room} {s : State} {m : MethodId} {args : Array Value} {below : List Frame} {meth : Method} {c : Code} {H H0 : Heap} {locs : List Loc} {cells slots : Nat} {Qw : State → Prop}
variable {pc : Nat} {ls : Array Slot} {rest st0 : List Value} {a : Array Value} {adK adV : Nat → Nat} {A : Nat → Prop}
theorem j_aftv (hr : va_Run p lc e R s m args below meth c H locs cells slots 0 0 (F0 m pc ls st0) rest (va_Qv (fun (_ : Unit) => True) (fun _ _ => True) nA a) nA) (hS : va_S nA s.heap H locs)
    (kk : ∀ (H1 : Heap) (locs1 : List Loc), va_S nA s.heap H1 locs1 → W p lc e R s m args below meth c H1 locs1 cells slots Qw (F0 m (pc + 3) ls rest)) : W p lc e R s m args below meth c H locs cells slots Qw (F0 m pc ls st0) :=
  va_callv hr hS (fun _ _ h => h) (fun _ h => h) (fun u t H1 locs1 ht hvm hp hb hz hk hS => kk H1 locs1 hS)
end JR2
set_option maxHeartbeats 4000000 in
set_option maxRecDepth 100000 in
theorem j_sci (l : Launch) (adK adV : Nat → Nat) (A : Nat → Prop) (x k : Int32) (h0 : ¬ x < 0) (h1 : x < k) : CJv l yJ0_checkIndex_df160 wsJ0_checkIndex_df160 1 22 adK adV A [.int x, .int k] := by
  refine Met.ofW (cc := cJ0_checkIndex_df160) (maxL := 2) (ret := none) (by decide) rfl ?_
  intro p e s m args below meth c s₁ B hml hv
  obtain ⟨rfl, hX⟩ := hv
  have hx := B.exec
  have hb := B.bytes
  have hr := B.returns
  have hts := atoms_spec (ws := wsJ0_checkIndex_df160) B.pre
  have hown : s.vm.findClass RJ0 = some m.cls := findClass_of_methodNamed B.named
  have hlocks := B.notSynchronized
  have hS : va_S nA s.heap s.heap [] := va_S.rf
  have hl := lv_entry ([.int x, .int k]) (n := 2) (Nat.le_of_ble_eq_true rfl)
  rw [lg_entry_eq]
  generalize (lg_sl ([.int x, .int k]) ++ List.replicate (2 - (lg_sl ([.int x, .int k])).length) Slot.unset).toArray = ls at hl ⊢
  have hl : lv_has ls 2 [(0, .int x), (1, .int k)] := hl
  refine lv_iload_n hx hb dJ0_checkIndex_df160_0 rfl (lv_at hl 0 rfl) ?_
  refine lv_iload_n hx hb dJ0_checkIndex_df160_1 rfl (lv_at hl 1 rfl) ?_
  obtain ⟨o, ho⟩ : ∃ o : Option Nat, va_Z "jdk/internal/util/Preconditions" "SIOOBE_FORMATTER" "Ljava/util/function/BiFunction;" (va_rf o) A s s.heap := by
    rcases hX.2.1 with h | ⟨t, h⟩
    · exact ⟨none, h⟩
    · exact ⟨some t, h⟩
  refine va_gets hx hb ho (nA_S hS) hown (hts (.fieldLink RJ0 1053 "jdk/internal/util/Preconditions" "SIOOBE_FORMATTER" "Ljava/util/function/BiFunction;") (by decide +kernel)) (fun _ h => h) dJ0_checkIndex_df160_2 ?_
  refine j_aft (va_runS (As := [.int x, .int k, va_rf o]) (rest := []) ⟨hx, hb, hml, hown, hts⟩ (j_pci l adK adV A x k o h0 h1) (va_cwS 3 hts gJ0_checkIndex_df160_J3_checkIndex_8e157 rfl rfl rfl (by decide +kernel) ⟨Nat.le_of_ble_eq_true rfl, Nat.le_of_ble_eq_true rfl⟩) ⟨j_blind, j_pre hX (nA_S hS)⟩ rfl rfl hl.1 rfl (lv_room (Nat.le_of_ble_eq_true rfl)) dJ0_checkIndex_df160_5 ⟨Nat.le_refl _, Nat.le_refl _⟩) hS (fun H locs hS => ?_)
  refine lv_pop hx hb dJ0_checkIndex_df160_8 rfl ?_
  exact W.vret hx hb hr (fun t ht hW => ⟨⟨(), rfl, trivial, trivial⟩, hS.F ht⟩) hS.2.2 dJ0_checkIndex_df160_9 hlocks
theorem txL_lt : ∀ i, i < 11 → txL i < 8 := by decide +kernel
theorem vp_in_lt {x : Int32} {k : Nat} (h : vp_in x k) (hk : k < 2 ^ 31) : ¬ x < 0 ∧ x < Int32.ofNat k := by
  obtain ⟨j, hj, rfl⟩ := vp_in_of h hk
  exact ⟨nI_pos (by omega), nI_lt hj hk⟩
set_option maxHeartbeats 4000000 in
set_option maxRecDepth 100000 in
theorem j_lca (l : Launch) (adK adV : Nat → Nat) (A : Nat → Prop) (i : Nat) (hi : i < 11) (x : Int32) (hin : vp_in x (txL i)) : CJ l yJ1_charAt_3b067 wsJ1_charAt_3b067 2 43 adK adV A [.ref (adV i), .int x] (txC i x.toNatClampNeg) := by
  have hlt : x.toNatClampNeg < txL i := Nat.not_le.mp fun q => hin (Or.inr q)
  obtain ⟨h0, h1⟩ := vp_in_lt hin (by have := txL_lt i hi; omega)
  refine Met.ofW (cc := cJ1_charAt_3b067) (maxL := 2) (ret := (some .char)) (by decide) rfl ?_
  intro p e s m args below meth c s₁ B hml hv
  obtain ⟨rfl, hX⟩ := hv
  have hx := B.exec
  have hb := B.bytes
  have hr := B.returns
  have hts := atoms_spec (ws := wsJ1_charAt_3b067) B.pre
  have hown : s.vm.findClass RJ1 = some m.cls := findClass_of_methodNamed B.named
  have hlocks := B.notSynchronized
  have hS : va_S nA s.heap s.heap [] := va_S.rf
  have hl := lv_entry ([.ref (adV i), .int x]) (n := 2) (Nat.le_of_ble_eq_true rfl)
  rw [lg_entry_eq]
  generalize (lg_sl ([.ref (adV i), .int x]) ++ List.replicate (2 - (lg_sl ([.ref (adV i), .int x])).length) Slot.unset).toArray = ls at hl ⊢
  have hl : lv_has ls 2 [(0, .ref (adV i)), (1, .int x)] := hl
  refine lv_iload_n hx hb dJ1_charAt_3b067_0 rfl (lv_at hl 1 rfl) ?_
  refine lv_aload_n hx hb dJ1_charAt_3b067_1 rfl (lv_at hl 0 rfl) ?_
  refine va_tlen (v := Int32.ofNat (txL i)) hx hb (hX.2.2.1.1 i hi).2.2.2 (nA_S hS) rfl dJ1_charAt_3b067_2 ?_
  refine j_aftv (va_runS (As := [.int x, .int (Int32.ofNat (txL i))]) (rest := []) ⟨hx, hb, hml, hown, hts⟩ (j_sci l adK adV A x (Int32.ofNat (txL i)) h0 h1) (va_cwS 2 hts gJ1_charAt_3b067_J0_checkIndex_df160 rfl rfl rfl (by decide +kernel) ⟨Nat.le_of_ble_eq_true rfl, Nat.le_of_ble_eq_true rfl⟩) ⟨j_blind, j_pre hX (nA_S hS)⟩ rfl rfl hl.1 rfl (lv_room (Nat.le_of_ble_eq_true rfl)) dJ1_charAt_3b067_3 ⟨Nat.le_refl _, Nat.le_refl _⟩) hS (fun H locs hS => ?_)
  refine lv_aload_n hx hb dJ1_charAt_3b067_6 rfl (lv_at hl 0 rfl) ?_
  refine lv_iload_n hx hb dJ1_charAt_3b067_7 rfl (lv_at hl 1 rfl) ?_
  refine va_tb hx hb (hX.2.2.1.1 i hi).2.2.2 (nA_S hS) hin rfl dJ1_charAt_3b067_8 ?_
  refine lv_sipush (v := 255) hx hb dJ1_charAt_3b067_9 (by decide +kernel) ?_
  refine lv_iand hx hb dJ1_charAt_3b067_12 ?_
  refine lv_i2c hx hb dJ1_charAt_3b067_13 rfl ?_
  exact W.zret hx hb hr (txC_n i hi _ hlt) (fun t ht hW => ⟨⟨_, (), rfl, rfl, trivial⟩, hS.F ht⟩) hS.2.2 dJ1_charAt_3b067_14 hlocks
set_option maxHeartbeats 4000000 in
set_option maxRecDepth 100000 in
theorem j_charAt (l : Launch) (adK adV : Nat → Nat) (A : Nat → Prop) (i : Nat) (hi : i < 11) (x : Int32) (hin : vp_in x (txL i)) : CJ l yJ0_charAt_5068e wsJ0_charAt_5068e 3 64 adK adV A [.ref (adK i), .int x] (txC i x.toNatClampNeg) := by
  have hlt : x.toNatClampNeg < txL i := Nat.not_le.mp fun q => hin (Or.inr q)
  refine Met.ofW (cc := cJ0_charAt_5068e) (maxL := 2) (ret := (some .char)) (by decide) rfl ?_
  intro p e s m args below meth c s₁ B hml hv
  obtain ⟨rfl, hX⟩ := hv
  have hx := B.exec
  have hb := B.bytes
  have hr := B.returns
  have hts := atoms_spec (ws := wsJ0_charAt_5068e) B.pre
  have hown : s.vm.findClass RJ0 = some m.cls := findClass_of_methodNamed B.named
  have hlocks := B.notSynchronized
  have hS : va_S nA s.heap s.heap [] := va_S.rf
  have hl := lv_entry ([.ref (adK i), .int x]) (n := 2) (Nat.le_of_ble_eq_true rfl)
  rw [lg_entry_eq]
  generalize (lg_sl ([.ref (adK i), .int x]) ++ List.replicate (2 - (lg_sl ([.ref (adK i), .int x])).length) Slot.unset).toArray = ls at hl ⊢
  have hl : lv_has ls 2 [(0, .ref (adK i)), (1, .int x)] := hl
  refine lv_aload_n hx hb dJ0_charAt_5068e_0 rfl (lv_at hl 0 rfl) ?_
  refine j_aft (va_runV (As := []) (rest := []) ⟨hx, hb, hml, hown, hts⟩ (j_isLatin1 l adK adV A i hi) (cwV 0 hts gJ0_charAt_5068e_J0_isLatin1_aae02 rfl rfl rfl (by decide +kernel) ⟨Nat.le_of_ble_eq_true rfl, Nat.le_of_ble_eq_true rfl⟩) ⟨j_blind, vk_recv hX.2.2.1 hi (nA_S hS), j_pre hX (nA_S hS)⟩ rfl rfl hl.1 rfl (lv_room (Nat.le_of_ble_eq_true rfl)) dJ0_charAt_5068e_1 ⟨Nat.le_refl _, Nat.le_refl _⟩) hS (fun H locs hS => ?_)
  refine lv_if_eq (tgt := 16) hx hb dJ0_charAt_5068e_4 (by decide) (fun hc => absurd hc (by decide)) (fun _ => ?_)
  refine lv_aload_n hx hb dJ0_charAt_5068e_7 rfl (lv_at hl 0 rfl) ?_
  refine vk_getf hx hb (hX.2.2.1.1 i hi).2.2.1 (nA_S hS) hown (hts (.fieldLink RJ0 9 "java/lang/String" "value" "[B") (by decide +kernel)) (fun _ h => h) dJ0_charAt_5068e_8 ?_
  refine lv_iload_n hx hb dJ0_charAt_5068e_11 rfl (lv_at hl 1 rfl) ?_
  refine j_aft (va_runS (As := [.ref (adV i), .int x]) (rest := []) ⟨hx, hb, hml, hown, hts⟩ (j_lca l adK adV A i hi x hin) (va_cwS 2 hts gJ0_charAt_5068e_J1_charAt_3b067 rfl rfl rfl (by decide +kernel) ⟨Nat.le_of_ble_eq_true rfl, Nat.le_of_ble_eq_true rfl⟩) ⟨j_blind, j_pre hX (nA_S hS)⟩ rfl rfl hl.1 rfl (lv_room (Nat.le_of_ble_eq_true rfl)) dJ0_charAt_5068e_12 ⟨Nat.le_refl _, Nat.le_refl _⟩) hS (fun H locs hS => ?_)
  exact W.zret hx hb hr (txC_n i hi _ hlt) (fun t ht hW => ⟨⟨_, (), rfl, rfl, trivial⟩, hS.F ht⟩) hS.2.2 dJ0_charAt_5068e_15 hlocks
/-- contracts of methods that ask the string constants -/
def CiS (l : Launch) (y : MethodName) (ws : List Cond) (F L : Nat) (G : St → State → Prop) (adK adV : Nat → Nat) (A : Nat → Prop) (av : List Value) (wp : St → (Int32 → St → Prop) → Prop) : Prop :=
  ∀ (S : St) (Q : Int32 → St → Prop), Met l y ws { frames := F, cells := 0, slots := 0, locals := L } (va_Pc av (fun U => (G S U ∧ SX adK adV A U U.heap) ∧ wp S Q)) (va_Qi Q G A) 0 0 A
def CvS (l : Launch) (y : MethodName) (ws : List Cond) (F L : Nat) (G : St → State → Prop) (adK adV : Nat → Nat) (A : Nat → Prop) (av : List Value) (wp : St → (St → Prop) → Prop) : Prop :=
  ∀ (S : St) (Q : St → Prop), Met l y ws { frames := F, cells := 0, slots := 0, locals := L } (va_Pc av (fun U => (G S U ∧ SX adK adV A U U.heap) ∧ wp S Q)) (va_Qv Q G A) 0 0 A
theorem k_blindS {D : va_G} {E : Ety} {ly : Nat → Nat} {n : List Nat} {A : Nat → Prop} {kA : Nat → ClassId} {adK adV : Nat → Nat} {S : St} {av : List Value} {P : Prop} : FrameBlind (va_Pc av (fun U => (Gp D E ly n A kA S U ∧ SX adK adV A U U.heap) ∧ P)) := by
  intro a U g mk ⟨h1, ⟨h2, h3⟩, h6⟩
  have h := k_blind (D := D) (E := E) (ly := ly) (n := n) (A := A) (kA := kA) (S := S) (av := av) (P := P) a U g mk ⟨h1, h2, h6⟩
  exact ⟨h1, ⟨h.2.1, h3.call a g mk⟩, h6⟩
section JR3
variable {s : State} {H H0 : Heap} {locs : List Loc} {adK adV : Nat → Nat} {A : Nat → Prop} {D : va_G} {E : Ety} {ly : Nat → Nat} {n : List Nat} {S : St} {kA : Nat → ClassId}
theorem k_preS (hK : va_K D vwCl (tysC kA) s) (hN : NW s) (hX : SX adK adV A s s.heap) (hH : Hp D E ly n A s.heap S H locs) {av : List Value} {P : Prop} (hw : P) : ∀ U : State, U.heap = H → s.WarmedH U.vm → va_Pc av (fun U => (Gp D E ly n A kA S U ∧ SX adK adV A U U.heap) ∧ P) av.toArray U :=
  fun U hU hW => ⟨rfl, ⟨⟨by rw [hU]; exact hH.1, hH.2.1, va_K.moved hW.alike hK, hN.warm hW⟩, hX.go hW (by rw [hU]; exact hH.2.2.2.1)⟩, hw⟩
end JR3
