/-! THE STATE: every object and every row has a code (a number); a state says, by codes, what int fields, int rows, references (codes) and longs hold; the cells of the codes in the list n lie at the addresses ly. -/
abbrev St : Type := (Nat → Nat → Int32) × (Nat → Nat → Int32) × (Nat → Nat → Nat) × (Nat → Nat → Int64)
def up1 {α : Type} (f : Nat → α) (k : Nat) (v : α) : Nat → α := fun j => if j = k then v else f j
def up2 {α : Type} (f : Nat → Nat → α) (c k : Nat) (v : α) : Nat → Nat → α := fun c' => if c' = c then up1 (f c) k v else f c'
def upr {α : Type} (f : Nat → Nat → α) (c : Nat) (g : Nat → α) : Nat → Nat → α := fun c' => if c' = c then g else f c'
def gI (S : St) (c k : Nat) : Int32 := S.1 c k
def gA (S : St) (c k : Nat) : Int32 := S.2.1 c k
def gN (S : St) (c k : Nat) : Nat := S.2.2.1 c k
def gL (S : St) (c k : Nat) : Int64 := S.2.2.2 c k
def sI (S : St) (c k : Nat) (v : Int32) : St := (up2 S.1 c k v, S.2)
def sA (S : St) (c k : Nat) (v : Int32) : St := (S.1, up2 S.2.1 c k v, S.2.2)
def sN (S : St) (c k : Nat) (v : Nat) : St := (S.1, S.2.1, up2 S.2.2.1 c k v, S.2.2.2)
def sL (S : St) (c k : Nat) (v : Int64) : St := (S.1, S.2.1, S.2.2.1, up2 S.2.2.2 c k v)
def sR (S : St) (c : Nat) (g : Nat → Int32) : St := (S.1, upr S.2.1 c g, S.2.2)
abbrev Ety : Type := Nat → (Nat → Int32) → (Nat → Int32) → (Nat → Nat) → (Nat → Int64) → va_E
def WS (E : Ety) (ly : Nat → Nat) (n : List Nat) (S : St) : va_W := n.map fun c => (ly c, E c (gI S c) (gA S c) (gN S c) (gL S c))
theorem WS_at {E : Ety} {ly : Nat → Nat} {n : List Nat} {S : St} {c : Nat} (hc : c ∈ n) : ∃ i : Nat, n[i]? = some c ∧ ∀ {e : va_E}, E c (gI S c) (gA S c) (gN S c) (gL S c) = e → (WS E ly n S)[i]? = some (ly c, e) := by
  obtain ⟨i, hi⟩ := List.getElem?_of_mem hc
  refine ⟨i, hi, fun he => ?_⟩
  subst he
  simp [WS, hi]
/-- the states agree at all codes but c -/
def Off (S S' : St) (c : Nat) : Prop := ∀ c', c' ≠ c → S'.1 c' = S.1 c' ∧ S'.2.1 c' = S.2.1 c' ∧ S'.2.2.1 c' = S.2.2.1 c' ∧ S'.2.2.2 c' = S.2.2.2 c'
theorem off_I (S : St) (c k : Nat) (v : Int32) : Off S (sI S c k v) c := fun c' h => ⟨by show up2 _ _ _ _ c' = _; unfold up2; rw [if_neg h], rfl, rfl, rfl⟩
theorem off_A (S : St) (c k : Nat) (v : Int32) : Off S (sA S c k v) c := fun c' h => ⟨rfl, by show up2 _ _ _ _ c' = _; unfold up2; rw [if_neg h], rfl, rfl⟩
theorem off_R (S : St) (c : Nat) (g : Nat → Int32) : Off S (sR S c g) c := fun c' h => ⟨rfl, by show upr _ _ _ c' = _; unfold upr; rw [if_neg h], rfl, rfl⟩
theorem off_N (S : St) (c k : Nat) (v : Nat) : Off S (sN S c k v) c := fun c' h => ⟨rfl, rfl, by show up2 _ _ _ _ c' = _; unfold up2; rw [if_neg h], rfl⟩
theorem off_L (S : St) (c k : Nat) (v : Int64) : Off S (sL S c k v) c := fun c' h => ⟨rfl, rfl, rfl, by show up2 _ _ _ _ c' = _; unfold up2; rw [if_neg h]⟩
theorem up2_c {α : Type} (f : Nat → Nat → α) (c k : Nat) (v : α) : up2 f c k v c = up1 (f c) k v := by unfold up2; rw [if_pos rfl]
theorem gI_sI (S : St) (c k : Nat) (v : Int32) : gI (sI S c k v) c = up1 (gI S c) k v := up2_c _ _ _ _
theorem gA_sA (S : St) (c k : Nat) (v : Int32) : gA (sA S c k v) c = up1 (gA S c) k v := up2_c _ _ _ _
theorem gN_sN (S : St) (c k : Nat) (v : Nat) : gN (sN S c k v) c = up1 (gN S c) k v := up2_c _ _ _ _
theorem gL_sL (S : St) (c k : Nat) (v : Int64) : gL (sL S c k v) c = up1 (gL S c) k v := up2_c _ _ _ _
theorem gA_sR (S : St) (c : Nat) (g : Nat → Int32) : gA (sR S c g) c = g := by show upr _ _ _ c = _; unfold upr; rw [if_pos rfl]
theorem WS_set {A : Nat → Prop} {E : Ety} {ly : Nat → Nat} {n : List Nat} {S S' : St} {c i : Nat} {e : va_E} (hD : va_D A (WS E ly n S)) (hi : n[i]? = some c) (hoff : Off S S' c) (he : E c (gI S' c) (gA S' c) (gN S' c) (gL S' c) = e) : (WS E ly n S).set i (ly c, e) = WS E ly n S' := by
  apply List.ext_getElem?
  intro j
  rw [List.getElem?_set]
  by_cases hj : i = j
  · subst hj
    have hl : i < n.length := (List.getElem?_eq_some_iff.mp hi).1
    rw [if_pos rfl, if_pos (by simpa [WS] using hl)]
    subst he
    simp [WS, hi]
  · rw [if_neg hj]
    show (WS E ly n S)[j]? = (WS E ly n S')[j]?
    cases hk : n[j]? with
    | none => simp [WS, hk]
    | some d =>
      have hd : d ≠ c := by
        intro h
        subst h
        exact hj (hD.1 i j (ly d, E d (gI S d) (gA S d) (gN S d) (gL S d)) (ly d, E d (gI S d) (gA S d) (gN S d) (gL S d)) (by simp [WS, hi]) (by simp [WS, hk]) rfl)
      obtain ⟨h1, h2, h3, h4⟩ := hoff d hd
      simp only [WS, List.getElem?_map, hk, Option.map_some]
      show some (ly d, E d (S.1 d) (S.2.1 d) (S.2.2.1 d) (S.2.2.2 d)) = some (ly d, E d (S'.1 d) (S'.2.1 d) (S'.2.2.1 d) (S'.2.2.2 d))
      rw [h1, h2, h3, h4]
/-- a walk's heap: the picture of a state, the cells apart and in A, nothing else changed since H0 -/
def Hp (D : va_G) (E : Ety) (ly : Nat → Nat) (n : List Nat) (A : Nat → Prop) (H0 : Heap) (S : St) (H : Heap) (locs : List Loc) : Prop := va_P D vwCl (WS E ly n S) H ∧ va_D A (WS E ly n S) ∧ va_S A H0 H locs
/-- the arrays' own numbers -/
def tysC (kA : Nat → ClassId) : List (ClassId × FieldType) := [(kA 0, .int), (kA 1, .object "SlowPanes$Pane"), (kA 2, .object "SlowPanes$Sheet"), (kA 3, .long)]
/-- the links between nest mates -/
def nestW : List Cond := [.methodLinkNest RX11 11 yX3_init RX11, .methodLinkNest RX11 18 yX4_init RX11, .methodLinkNest RX11 41 yX9_init RX11, .methodLinkNest RX3 49 yX11_glimpseOf RX11, .methodLinkNest RX4 109 yX11_viewSlot RX11, .methodLinkNest RX4 119 yX11_loveSlot RX11, .methodLinkNest RX10 34 yX3_init RX11, .methodLinkNest RX10 58 yX11_viewSlot RX11, .methodLinkNest RX10 75 yX11_loveSlot RX11]
def NW (U : State) : Prop := ∀ w ∈ nestW, va_Nw w U
theorem NW.warm {s U : State} (h : NW s) (hW : s.WarmedH U.vm) : NW U := by
  intro w hw
  have h1 := h w hw
  simp only [nestW, List.mem_cons, List.not_mem_nil, or_false] at hw
  rcases hw with rfl | rfl | rfl | rfl | rfl | rfl | rfl | rfl | rfl <;> exact va_Nw.warmM hW h1
/-- what a call finds and leaves -/
def Gp (D : va_G) (E : Ety) (ly : Nat → Nat) (n : List Nat) (A : Nat → Prop) (kA : Nat → ClassId) (S : St) (U : State) : Prop := va_P D vwCl (WS E ly n S) U.heap ∧ va_D A (WS E ly n S) ∧ va_K D vwCl (tysC kA) U ∧ NW U
/-- contracts of methods that make nothing: an int, nothing, a reference by its code -/
def Ci (l : Launch) (y : MethodName) (ws : List Cond) (F L : Nat) (G : St → State → Prop) (A : Nat → Prop) (av : List Value) (wp : St → (Int32 → St → Prop) → Prop) : Prop :=
  ∀ (S : St) (Q : Int32 → St → Prop), Met l y ws { frames := F, cells := 0, slots := 0, locals := L } (va_Pc av (fun U => G S U ∧ wp S Q)) (va_Qi Q G A) 0 0 A
def Cv (l : Launch) (y : MethodName) (ws : List Cond) (F L : Nat) (G : St → State → Prop) (A : Nat → Prop) (av : List Value) (wp : St → (St → Prop) → Prop) : Prop :=
  ∀ (S : St) (Q : St → Prop), Met l y ws { frames := F, cells := 0, slots := 0, locals := L } (va_Pc av (fun U => G S U ∧ wp S Q)) (va_Qv Q G A) 0 0 A
def Cr (l : Launch) (y : MethodName) (ws : List Cond) (F L : Nat) (G : St → State → Prop) (ly : Nat → Nat) (A : Nat → Prop) (av : List Value) (wp : St → (Nat → St → Prop) → Prop) : Prop :=
  ∀ (S : St) (Q : Nat → St → Prop), Met l y ws { frames := F, cells := 0, slots := 0, locals := L } (va_Pc av (fun U => G S U ∧ wp S Q)) (va_Qr (fun u : Nat × St => Q u.1 u.2) (fun u a t => a = ly u.1 ∧ G u.2 t) A) 0 0 A
theorem k_blind {D : va_G} {E : Ety} {ly : Nat → Nat} {n : List Nat} {A : Nat → Prop} {kA : Nat → ClassId} {S : St} {av : List Value} {P : Prop} : FrameBlind (va_Pc av (fun U => Gp D E ly n A kA S U ∧ P)) := by
  intro a U g mk ⟨h1, ⟨h2, h3, h4, h5⟩, h6⟩
  exact ⟨h1, ⟨h2, h3, va_K.moved (u := U) (U := U.calling g mk a) (Vm.Alike.refl U.vm) h4, fun w hw => by
    have h7 := h5 w hw
    simp only [nestW, List.mem_cons, List.not_mem_nil, or_false] at hw
    rcases hw with rfl | rfl | rfl | rfl | rfl | rfl | rfl | rfl | rfl <;> exact va_Nw.same rfl rfl h7⟩, h6⟩
section ROWS
variable {p : Program} {l : Launch} {e : Env} {R : Room} {s : State} {m : MethodId} {args : Array Value} {below : List Frame} {meth : Method} {c : Code} {H : Heap} {locs : List Loc} {cells slots : Nat} {Qw : State → Prop}
variable {cc : ByteArray} {pc : Nat} {ls : Array Slot} {rest : List Value} {D : va_G} {E : Ety} {ly : Nat → Nat} {n : List Nat} {A : Nat → Prop} {H0 : Heap} {S : St} {kA : Nat → ClassId}
theorem k_get (hx : p.tables.exec = Jvm.exec) (hb : c.code = cc) {own ref C : String} {T : u_T} {N ci index : Nat} {Ts : List Cond} (hts : ∀ w ∈ Ts, w.before args s = true) (hin : ∀ w ∈ u_ws C T N, w ∈ Ts) (hown : s.vm.findClass own = some m.cls) (hK : va_K D vwCl (tysC kA) s) (hH : Hp D E ly n A H0 S H locs) {o : Nat} (ho : o ∈ n) {fs : List Value} (hE : E o (gI S o) (gA S o) (gN S o) (gL S o) = .inr (ci, fs)) (hcl : vwCl[ci]? = some (C, T, N)) (k : Nat) (hk : k < N) (hlink : (Cond.fieldLink own index ref (T k).2.1 (T k).2.2.1).before args s = true) (hsame : ∀ x, s.fieldFound? (T k).1 (T k).2.1 (T k).2.2.1 = some x → s.fieldFound? ref (T k).2.1 (T k).2.2.1 = some x) {v : Value} (hv : fs[k]? = some v) (hdg : decode cc pc = .ok (.getfield index, 3))
    (kk : W p l e R s m args below meth c H locs cells slots Qw (F0 m (pc + 3) ls (v :: rest))) : W p l e R s m args below meth c H locs cells slots Qw (F0 m pc ls (.ref (ly o) :: rest)) :=
  let ⟨i, _, hi⟩ := WS_at (E := E) (ly := ly) (S := S) ho
  va_get hx hb hts hin hown hK hH.1 i (hi hE) hcl k hk hlink hsame hv hdg kk
theorem k_put (hx : p.tables.exec = Jvm.exec) (hb : c.code = cc) {own ref C : String} {T : u_T} {N ci index : Nat} {Ts : List Cond} (hts : ∀ w ∈ Ts, w.before args s = true) (hin : ∀ w ∈ u_ws C T N, w ∈ Ts) (ty0 : Nat → FieldType) (hty : ∀ k, k < N → parseFieldDescriptor (T k).2.2.1 = some (ty0 k)) (hnm : ∀ a, a < N → ∀ b, b < N → a ≠ b → (T a).2.1 ≠ (T b).2.1) (hown : s.vm.findClass own = some m.cls) (hK : va_K D vwCl (tysC kA) s) (hH : Hp D E ly n A H0 S H locs) {o : Nat} (ho : o ∈ n) {fs : List Value} (hE : E o (gI S o) (gA S o) (gN S o) (gL S o) = .inr (ci, fs)) (hcl : vwCl[ci]? = some (C, T, N)) (k : Nat) (hk : k < N) (hlink : (Cond.fieldLink own index ref (T k).2.1 (T k).2.2.1).before args s = true) (hsame : ∀ x, s.fieldFound? (T k).1 (T k).2.1 (T k).2.2.1 = some x → s.fieldFound? ref (T k).2.1 (T k).2.2.1 = some x) (hfin : (T k).2.2.2 = false) {ty : FieldType} {v : Value} (hd : parseFieldDescriptor (T k).2.2.1 = some ty) (hn : narrow ty v = v) (hfit : fits ty v = true) (hl : k < fs.length)
    {S' : St} (hoff : Off S S' o) (hE' : E o (gI S' o) (gA S' o) (gN S' o) (gL S' o) = .inr (ci, fs.set k v)) (hdg : decode cc pc = .ok (.putfield index, 3))
    (kk : ∀ (H1 : Heap) (locs1 : List Loc), Hp D E ly n A H0 S' H1 locs1 → W p l e R s m args below meth c H1 locs1 cells slots Qw (F0 m (pc + 3) ls rest)) : W p l e R s m args below meth c H locs cells slots Qw (F0 m pc ls (v :: .ref (ly o) :: rest)) := by
  obtain ⟨i, hi0, hi⟩ := WS_at (E := E) (ly := ly) (S := S) ho
  refine va_put hx hb hts hin ty0 hty hnm hown hK hH.1 hH.2.1 hH.2.2 i (hi hE) hcl k hk hlink hsame hfin hd hn hfit hl hdg fun H1 locs1 hP hD hS => ?_
  rw [WS_set hH.2.1 hi0 hoff hE'] at hP hD
  exact kk H1 locs1 ⟨hP, hD, hS⟩
theorem k_ild (hx : p.tables.exec = Jvm.exec) (hb : c.code = cc) (hK : va_K D vwCl (tysC kA) s) (hH : Hp D E ly n A H0 S H locs) {o N : Nat} (ho : o ∈ n) (hE : E o (gI S o) (gA S o) (gN S o) (gL S o) = .inl (kA 0, N, .inl (gA S o))) {i : Int32} (hin : vp_in i N) (hdg : decode cc pc = .ok (.iaload, 1))
    (kk : W p l e R s m args below meth c H locs cells slots Qw (F0 m (pc + 1) ls (.int (gA S o i.toNatClampNeg) :: rest))) : W p l e R s m args below meth c H locs cells slots Qw (F0 m pc ls (.int i :: .ref (ly o) :: rest)) :=
  let ⟨j, _, hj⟩ := WS_at (E := E) (ly := ly) (S := S) ho
  va_iald hx hb hK hH.1 j 0 (hj hE) rfl hin hdg kk
theorem k_ist (hx : p.tables.exec = Jvm.exec) (hb : c.code = cc) (hK : va_K D vwCl (tysC kA) s) (hH : Hp D E ly n A H0 S H locs) {o N : Nat} (ho : o ∈ n) (hE : ∀ f, E o (gI S o) f (gN S o) (gL S o) = .inl (kA 0, N, .inl f)) {i x : Int32} (hin : vp_in i N) (hdg : decode cc pc = .ok (.iastore, 1))
    (kk : ∀ (S' : St) (H1 : Heap) (locs1 : List Loc), S' = sA S o i.toNatClampNeg x → Hp D E ly n A H0 S' H1 locs1 → W p l e R s m args below meth c H1 locs1 cells slots Qw (F0 m (pc + 1) ls rest)) : W p l e R s m args below meth c H locs cells slots Qw (F0 m pc ls (.int x :: .int i :: .ref (ly o) :: rest)) := by
  obtain ⟨j, hj0, hj⟩ := WS_at (E := E) (ly := ly) (S := S) ho
  refine va_iast hx hb hK hH.1 hH.2.1 hH.2.2 j 0 (hj (hE _)) rfl hin hdg fun H1 locs1 hP hD hS => ?_
  have e1 : (WS E ly n S).set j (ly o, .inl (kA 0, N, .inl (upd (gA S o) i.toNatClampNeg x))) = WS E ly n (sA S o i.toNatClampNeg x) := WS_set hH.2.1 hj0 (off_A _ _ _ _) (by rw [gA_sA]; exact hE _)
  rw [e1] at hP hD
  exact kk _ H1 locs1 rfl ⟨hP, hD, hS⟩
theorem k_lld (hx : p.tables.exec = Jvm.exec) (hb : c.code = cc) (hK : va_K D vwCl (tysC kA) s) (hH : Hp D E ly n A H0 S H locs) {o N : Nat} (ho : o ∈ n) (hE : E o (gI S o) (gA S o) (gN S o) (gL S o) = .inl (kA 3, N, .inr (.inl (gL S o)))) {i : Int32} (hin : vp_in i N) (hdg : decode cc pc = .ok (.laload, 1))
    (kk : W p l e R s m args below meth c H locs cells slots Qw (F0 m (pc + 1) ls (.long (gL S o i.toNatClampNeg) :: rest))) : W p l e R s m args below meth c H locs cells slots Qw (F0 m pc ls (.int i :: .ref (ly o) :: rest)) :=
  let ⟨j, _, hj⟩ := WS_at (E := E) (ly := ly) (S := S) ho
  va_lald hx hb hK hH.1 j 3 (hj hE) rfl hin hdg kk
theorem k_lst (hx : p.tables.exec = Jvm.exec) (hb : c.code = cc) (hK : va_K D vwCl (tysC kA) s) (hH : Hp D E ly n A H0 S H locs) {o N : Nat} (ho : o ∈ n) (hE : ∀ f, E o (gI S o) (gA S o) (gN S o) f = .inl (kA 3, N, .inr (.inl f))) {i : Int32} {x : Int64} (hin : vp_in i N) (hdg : decode cc pc = .ok (.lastore, 1))
    (kk : ∀ (S' : St) (H1 : Heap) (locs1 : List Loc), S' = sL S o i.toNatClampNeg x → Hp D E ly n A H0 S' H1 locs1 → W p l e R s m args below meth c H1 locs1 cells slots Qw (F0 m (pc + 1) ls rest)) : W p l e R s m args below meth c H locs cells slots Qw (F0 m pc ls (.long x :: .int i :: .ref (ly o) :: rest)) := by
  obtain ⟨j, hj0, hj⟩ := WS_at (E := E) (ly := ly) (S := S) ho
  refine va_last hx hb hK hH.1 hH.2.1 hH.2.2 j 3 (hj (hE _)) rfl hin hdg fun H1 locs1 hP hD hS => ?_
  have e1 : (WS E ly n S).set j (ly o, .inl (kA 3, N, .inr (.inl (vp_updL (gL S o) i.toNatClampNeg x)))) = WS E ly n (sL S o i.toNatClampNeg x) := WS_set hH.2.1 hj0 (off_L _ _ _ _) (by rw [gL_sL]; exact hE _)
  rw [e1] at hP hD
  exact kk _ H1 locs1 rfl ⟨hP, hD, hS⟩
/-- a reference out of a row of them that holds none that is null -/
theorem k_ald (hx : p.tables.exec = Jvm.exec) (hb : c.code = cc) (hK : va_K D vwCl (tysC kA) s) (hH : Hp D E ly n A H0 S H locs) {o N t0 : Nat} (ho : o ∈ n) {C : String} {cA : ClassId} (ht : (tysC kA)[t0]? = some (cA, .object C)) {f : Nat → Option Nat} (hE : E o (gI S o) (gA S o) (gN S o) (gL S o) = .inl (cA, N, .inr (.inr (.inr (.inr f))))) {i : Int32} {v : Value} (hin : vp_in i N) (hv : va_rf (f i.toNatClampNeg) = v) (hdg : decode cc pc = .ok (.aaload, 1))
    (kk : W p l e R s m args below meth c H locs cells slots Qw (F0 m (pc + 1) ls (v :: rest))) : W p l e R s m args below meth c H locs cells slots Qw (F0 m pc ls (.int i :: .ref (ly o) :: rest)) := by
  subst hv
  obtain ⟨j, -, hj⟩ := WS_at (E := E) (ly := ly) (S := S) ho
  exact va_aldq hx hb hK hH.1 j t0 (hj hE) ht hin hdg kk
theorem k_alen (hx : p.tables.exec = Jvm.exec) (hb : c.code = cc) (hK : va_K D vwCl (tysC kA) s) (hH : Hp D E ly n A H0 S H locs) {o t0 : Nat} (ho : o ∈ n) {ty : FieldType} {cA : ClassId} (ht : (tysC kA)[t0]? = some (cA, ty)) {x : vp_A} (hE : E o (gI S o) (gA S o) (gN S o) (gL S o) = .inl (cA, x)) {v : Int32} (hv : Int32.ofNat x.1 = v) (hdg : decode cc pc = .ok (.arraylength, 1))
    (kk : W p l e R s m args below meth c H locs cells slots Qw (F0 m (pc + 1) ls (.int v :: rest))) : W p l e R s m args below meth c H locs cells slots Qw (F0 m pc ls (.ref (ly o) :: rest)) :=
  let ⟨j, _, hj⟩ := WS_at (E := E) (ly := ly) (S := S) ho
  va_alen hx hb hK hH.1 j t0 (hj hE) ht hv hdg kk
theorem k_ast (hx : p.tables.exec = Jvm.exec) (hb : c.code = cc) (hK : va_K D vwCl (tysC kA) s) (hH : Hp D E ly n A H0 S H locs) {o N t0 o2 ci : Nat} (ho : o ∈ n) (ho2 : o2 ∈ n) {r : vw_C} {cA : ClassId} (ht : (tysC kA)[t0]? = some (cA, .object r.1)) {f : Nat → Option Nat} {S' : St} {i : Int32} {vs : List Value} (hE : E o (gI S o) (gA S o) (gN S o) (gL S o) = .inl (cA, N, .inr (.inr (.inr (.inr f))))) (hE2 : E o2 (gI S o2) (gA S o2) (gN S o2) (gL S o2) = .inr (ci, vs)) (hc : vwCl[ci]? = some r) (hoff : Off S S' o) (hE' : E o (gI S' o) (gA S' o) (gN S' o) (gL S' o) = .inl (cA, N, .inr (.inr (.inr (.inr (va_up f i.toNatClampNeg (some (ly o2)))))))) (hin : vp_in i N) (hdg : decode cc pc = .ok (.aastore, 1))
    (kk : ∀ (H1 : Heap) (locs1 : List Loc), Hp D E ly n A H0 S' H1 locs1 → W p l e R s m args below meth c H1 locs1 cells slots Qw (F0 m (pc + 1) ls rest)) : W p l e R s m args below meth c H locs cells slots Qw (F0 m pc ls (.ref (ly o2) :: .int i :: .ref (ly o) :: rest)) := by
  obtain ⟨j, hj0, hj⟩ := WS_at (E := E) (ly := ly) (S := S) ho
  obtain ⟨j2, -, hj2⟩ := WS_at (E := E) (ly := ly) (S := S) ho2
  refine va_astq hx hb hK hH.1 hH.2.1 hH.2.2 j t0 j2 ci (hj hE) ht (hj2 hE2) hc hin hdg fun H1 locs1 hP hD hS => ?_
  rw [WS_set hH.2.1 hj0 hoff hE'] at hP hD
  exact kk H1 locs1 ⟨hP, hD, hS⟩
theorem k_astN (hx : p.tables.exec = Jvm.exec) (hb : c.code = cc) (hK : va_K D vwCl (tysC kA) s) (hH : Hp D E ly n A H0 S H locs) {o N t0 : Nat} (ho : o ∈ n) {C : String} {cA : ClassId} (ht : (tysC kA)[t0]? = some (cA, .object C)) {f : Nat → Option Nat} {S' : St} {i : Int32} (hE : E o (gI S o) (gA S o) (gN S o) (gL S o) = .inl (cA, N, .inr (.inr (.inr (.inr f))))) (hoff : Off S S' o) (hE' : E o (gI S' o) (gA S' o) (gN S' o) (gL S' o) = .inl (cA, N, .inr (.inr (.inr (.inr (va_up f i.toNatClampNeg none)))))) (hin : vp_in i N) (hdg : decode cc pc = .ok (.aastore, 1))
    (kk : ∀ (H1 : Heap) (locs1 : List Loc), Hp D E ly n A H0 S' H1 locs1 → W p l e R s m args below meth c H1 locs1 cells slots Qw (F0 m (pc + 1) ls rest)) : W p l e R s m args below meth c H locs cells slots Qw (F0 m pc ls (.null :: .int i :: .ref (ly o) :: rest)) := by
  obtain ⟨j, hj0, hj⟩ := WS_at (E := E) (ly := ly) (S := S) ho
  refine va_astqN hx hb hK hH.1 hH.2.1 hH.2.2 j t0 (hj hE) ht hin hdg fun H1 locs1 hP hD hS => ?_
  rw [WS_set hH.2.1 hj0 hoff hE'] at hP hD
  exact kk H1 locs1 ⟨hP, hD, hS⟩
theorem k_iret (hx : p.tables.exec = Jvm.exec) (hb : c.code = cc) (hr : meth.sig.returnType = some .int) (hlocks : meth.locks = false) (hK : va_K D vwCl (tysC kA) s) (hN : NW s) (hH : Hp D E ly n A s.heap S H locs) {Q : Int32 → St → Prop} {v : Int32} (hw : Q v S) (hdg : decode cc pc = .ok (.ireturn, 1)) : W p l e R s m args below meth c H locs 0 0 (MQ below (va_Qi Q (Gp D E ly n A kA) A) args s 0 0 A) (F0 m pc ls [.int v]) :=
  W.iret hx hb hr (fun t ht hW => ⟨⟨_, S, rfl, hw, by rw [ht]; exact hH.1, hH.2.1, va_K.moved hW.alike hK, hN.warm hW⟩, hH.2.2.F ht⟩) hH.2.2.2.2 hdg hlocks
theorem k_zret (hx : p.tables.exec = Jvm.exec) (hb : c.code = cc) {ty : FieldType} (hr : meth.sig.returnType = some ty) (hlocks : meth.locks = false) (hK : va_K D vwCl (tysC kA) s) (hN : NW s) (hH : Hp D E ly n A s.heap S H locs) {Q : Int32 → St → Prop} {v : Int32} (hn : narrow ty (.int v) = .int v) (hw : Q v S) (hdg : decode cc pc = .ok (.ireturn, 1)) : W p l e R s m args below meth c H locs 0 0 (MQ below (va_Qi Q (Gp D E ly n A kA) A) args s 0 0 A) (F0 m pc ls [.int v]) :=
  W.zret hx hb hr hn (fun t ht hW => ⟨⟨_, S, rfl, hw, by rw [ht]; exact hH.1, hH.2.1, va_K.moved hW.alike hK, hN.warm hW⟩, hH.2.2.F ht⟩) hH.2.2.2.2 hdg hlocks
theorem k_vret (hx : p.tables.exec = Jvm.exec) (hb : c.code = cc) (hr : meth.sig.returnType = none) (hlocks : meth.locks = false) (hK : va_K D vwCl (tysC kA) s) (hN : NW s) (hH : Hp D E ly n A s.heap S H locs) {Q : St → Prop} (hw : Q S) (hdg : decode cc pc = .ok (.return_, 1)) : W p l e R s m args below meth c H locs 0 0 (MQ below (va_Qv Q (Gp D E ly n A kA) A) args s 0 0 A) (F0 m pc ls []) :=
  W.vret hx hb hr (fun t ht hW => ⟨⟨S, rfl, hw, by rw [ht]; exact hH.1, hH.2.1, va_K.moved hW.alike hK, hN.warm hW⟩, hH.2.2.F ht⟩) hH.2.2.2.2 hdg hlocks
theorem k_aret (hx : p.tables.exec = Jvm.exec) (hb : c.code = cc) {C : String} (hr : meth.sig.returnType = some (.object C)) (hlocks : meth.locks = false) (hK : va_K D vwCl (tysC kA) s) (hN : NW s) (hH : Hp D E ly n A s.heap S H locs) {Q : Nat → St → Prop} {o : Nat} (hw : Q o S) (hdg : decode cc pc = .ok (.areturn, 1)) : W p l e R s m args below meth c H locs 0 0 (MQ below (va_Qr (fun u : Nat × St => Q u.1 u.2) (fun u a t => a = ly u.1 ∧ Gp D E ly n A kA u.2 t) A) args s 0 0 A) (F0 m pc ls [.ref (ly o)]) :=
  W.aret hx hb hr (Or.inl ⟨C, rfl⟩) (Or.inr ⟨_, rfl⟩) (fun t ht hW => ⟨⟨(o, S), ly o, rfl, hw, rfl, by rw [ht]; exact hH.1, hH.2.1, va_K.moved hW.alike hK, hN.warm hW⟩, hH.2.2.F ht⟩) hH.2.2.2.2 hdg hlocks
theorem k_pre (hK : va_K D vwCl (tysC kA) s) (hN : NW s) (hH : Hp D E ly n A H0 S H locs) {av : List Value} {P : Prop} (hw : P) : ∀ U : State, U.heap = H → s.WarmedH U.vm → va_Pc av (fun U => Gp D E ly n A kA S U ∧ P) av.toArray U :=
  fun U hU hW => ⟨rfl, ⟨by rw [hU]; exact hH.1, hH.2.1, va_K.moved hW.alike hK, hN.warm hW⟩, hw⟩
theorem k_recv (hK : va_K D vwCl (tysC kA) s) (hH : Hp D E ly n A H0 S H locs) {o ci : Nat} (ho : o ∈ n) {fs : List Value} (hE : E o (gI S o) (gA S o) (gN S o) (gL S o) = .inr (ci, fs)) {q : vw_C} (hc : vwCl[ci]? = some q) : ∃ cell : Cell, H[ly o]? = some cell ∧ cell.vm.isStatics = false ∧ s.vm.findClass q.1 = some cell.cls :=
  let ⟨_, _, hj⟩ := WS_at (E := E) (ly := ly) (S := S) ho
  va_recv hK hH.1 hc (hj hE)
variable {st0 : List Value} {a : Array Value}
theorem k_afti {Q : Int32 → St → Prop} (hr : va_Run p l e R s m args below meth c H locs cells slots 0 0 (F0 m pc ls st0) rest (va_Qi Q (Gp D E ly n A kA) A a) A) (hH : Hp D E ly n A H0 S H locs)
    (kk : ∀ (r : Int32) (S1 : St) (H1 : Heap) (locs1 : List Loc), Q r S1 → Hp D E ly n A H0 S1 H1 locs1 → W p l e R s m args below meth c H1 locs1 cells slots Qw (F0 m (pc + 3) ls (.int r :: rest))) : W p l e R s m args below meth c H locs cells slots Qw (F0 m pc ls st0) :=
  va_calli hr hH.2.2 (fun _ _ h => h) (fun _ h => h) (fun r u t H1 locs1 ht hvm hp hb hz hk hS => kk r u H1 locs1 hp ⟨by rw [← ht]; exact hb.1, hb.2.1, hS⟩)
theorem k_aftv {Q : St → Prop} (hr : va_Run p l e R s m args below meth c H locs cells slots 0 0 (F0 m pc ls st0) rest (va_Qv Q (Gp D E ly n A kA) A a) A) (hH : Hp D E ly n A H0 S H locs)
    (kk : ∀ (S1 : St) (H1 : Heap) (locs1 : List Loc), Q S1 → Hp D E ly n A H0 S1 H1 locs1 → W p l e R s m args below meth c H1 locs1 cells slots Qw (F0 m (pc + 3) ls rest)) : W p l e R s m args below meth c H locs cells slots Qw (F0 m pc ls st0) :=
  va_callv hr hH.2.2 (fun _ _ h => h) (fun _ h => h) (fun u t H1 locs1 ht hvm hp hb hz hk hS => kk u H1 locs1 hp ⟨by rw [← ht]; exact hb.1, hb.2.1, hS⟩)
theorem k_aftr {Q : Nat → St → Prop} (hr : va_Run p l e R s m args below meth c H locs cells slots 0 0 (F0 m pc ls st0) rest (va_Qr (fun u : Nat × St => Q u.1 u.2) (fun u a t => a = ly u.1 ∧ Gp D E ly n A kA u.2 t) A a) A) (hH : Hp D E ly n A H0 S H locs)
    (kk : ∀ (o : Nat) (S1 : St) (H1 : Heap) (locs1 : List Loc), Q o S1 → Hp D E ly n A H0 S1 H1 locs1 → W p l e R s m args below meth c H1 locs1 cells slots Qw (F0 m (pc + 3) ls (.ref (ly o) :: rest))) : W p l e R s m args below meth c H locs cells slots Qw (F0 m pc ls st0) :=
  va_callr hr hH.2.2 (fun _ _ h => h) (fun _ h => h) (fun u x t H1 locs1 ht hvm hp hb hz hk hS => by
    obtain ⟨rfl, hb⟩ := hb
    exact kk u.1 u.2 H1 locs1 hp ⟨by rw [← ht]; exact hb.1, hb.2.1, hS⟩)
end ROWS
