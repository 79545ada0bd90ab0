/-! WHAT CALLS MAKE: a new object gets the code 59 more than its address (ly (59 + q) = q). -/
theorem va_P.lft {D : va_G} {cl : List vw_C} {w1 w2 : va_W} {H : Heap} (h : va_P D cl (w1 ++ w2) H) : va_P D cl w1 H := fun k q hk => h k q (by rw [List.getElem?_append_left (List.getElem?_eq_some_iff.mp hk).1]; exact hk)
theorem va_P.rgt {D : va_G} {cl : List vw_C} {w1 w2 : va_W} {H : Heap} (h : va_P D cl (w1 ++ w2) H) : va_P D cl w2 H := fun k q hk => h (w1.length + k) q (by rw [List.getElem?_append_right (Nat.le_add_right _ _), Nat.add_sub_cancel_left]; exact hk)
theorem va_D.lft {A : Nat → Prop} {w1 w2 : va_W} (h : va_D A (w1 ++ w2)) : va_D A w1 := by
  have up : ∀ (k : Nat) (q : Nat × va_E), w1[k]? = some q → (w1 ++ w2)[k]? = some q := fun k q hk => by rw [List.getElem?_append_left (List.getElem?_eq_some_iff.mp hk).1]; exact hk
  exact ⟨fun i j p q hi hj => h.1 i j p q (up i p hi) (up j q hj), fun k q hk => h.2 k q (up k q hk)⟩
/-- what was there, and one cell more, apart from it -/
theorem grow_apart {E : Ety} {ly : Nat → Nat} {n : List Nat} {S : St} {A : Nat → Prop} {q : Nat} {e : va_E} (hD : va_D A (WS E ly n S ++ [(q, e)])) : A q ∧ ∀ c ∈ n, ly c ≠ q := by
  have hq : (WS E ly n S ++ [(q, e)])[(WS E ly n S).length]? = some (q, e) := by rw [List.getElem?_append_right (Nat.le_refl _), Nat.sub_self]; rfl
  refine ⟨hD.2 _ _ hq, fun c hc hq2 => ?_⟩
  obtain ⟨i, -, hi⟩ := WS_at (E := E) (ly := ly) (S := S) hc
  have h1 := hi rfl
  have hl : i < (WS E ly n S).length := (List.getElem?_eq_some_iff.mp h1).1
  have h2 : (WS E ly n S ++ [(q, e)])[i]? = some (ly c, E c (gI S c) (gA S c) (gN S c) (gL S c)) := by rw [List.getElem?_append_left hl]; exact h1
  have h3 := hD.1 _ _ _ _ h2 hq hq2
  omega
/-- it gets a code -/
theorem WS_push {E : Ety} {ly : Nat → Nat} {n : List Nat} {S S' : St} {q d : Nat} {e : va_E} (hly : ly d = q) (hap : ∀ c ∈ n, ly c ≠ q) (hoff : Off S S' d) (he : E d (gI S' d) (gA S' d) (gN S' d) (gL S' d) = e) : WS E ly n S ++ [(q, e)] = WS E ly (n ++ [d]) S' := by
  unfold WS
  rw [List.map_append]
  subst hly
  subst he
  congr 1
  refine List.map_congr_left fun c hc => ?_
  obtain ⟨h1, h2, h3, h4⟩ := hoff c (fun h => hap c hc (by rw [h]))
  show (ly c, E c (S.1 c) (S.2.1 c) (S.2.2.1 c) (S.2.2.2 c)) = (ly c, E c (S'.1 c) (S'.2.1 c) (S'.2.2.1 c) (S'.2.2.2 c))
  rw [h1, h2, h3, h4]
theorem Off.trans {S S' S'' : St} {c : Nat} (h : Off S S' c) (g : Off S' S'' c) : Off S S'' c := fun c' hc => ⟨(g c' hc).1.trans (h c' hc).1, (g c' hc).2.1.trans (h c' hc).2.1, (g c' hc).2.2.1.trans (h c' hc).2.2.1, (g c' hc).2.2.2.trans (h c' hc).2.2.2⟩
def sTh (S : St) (d ci : Nat) (x a : Int32) : St := sI (sI (sN S d 9 (ci + 2)) d 0 x) d 1 a
theorem sTh_off (S : St) (d ci : Nat) (x a : Int32) : Off S (sTh S d ci x a) d := ((off_N S d 9 (ci + 2)).trans (off_I _ d 0 x)).trans (off_I _ d 1 a)
theorem sTh_E {kA : Nat → ClassId} {ly : Nat → Nat} (S : St) {d : Nat} (ci : Nat) (x a : Int32) (h : 59 ≤ d) : Ec kA ly d (gI (sTh S d ci x a) d) (gA (sTh S d ci x a) d) (gN (sTh S d ci x a) d) (gL (sTh S d ci x a) d) = .inr (ci, [.int x, .int a, .ref (ly 7)]) := by
  have e9 : gN (sTh S d ci x a) d 9 = ci + 2 := by show gN (sN S d 9 (ci + 2)) d 9 = _; rw [gN_sN]; rfl
  have e0 : gI (sTh S d ci x a) d = up1 (up1 (gI S d) 0 x) 1 a := by unfold sTh; rw [gI_sI, gI_sI]; rfl
  rw [Ec_dy h, if_neg (by rw [e9]; omega), if_neg (by rw [e9]; omega), e9, e0]
  rfl
/-- contracts of methods that may make objects -/
def CiG (l : Launch) (y : MethodName) (ws : List Cond) (F L mc ms : Nat) (D : va_G) (E : Ety) (ly : Nat → Nat) (kA : Nat → ClassId) (n : List Nat) (A : Nat → Prop) (av : List Value) (wp : St → (List Nat → Int32 → St → Prop) → Prop) : Prop :=
  ∀ (S : St) (Q : List Nat → Int32 → St → Prop), Met l y ws { frames := F, cells := mc, slots := ms, locals := L } (va_Pc av (fun U => (Gp D E ly n A kA S U ∧ ∀ q, U.heap.size ≤ q → A q) ∧ wp S Q)) (va_Qi (fun r (u : List Nat × St) => Q u.1 r u.2) (fun u t => (∀ c ∈ n, c ∈ u.1) ∧ Gp D E ly u.1 A kA u.2 t) A) mc ms A
def CrG (l : Launch) (y : MethodName) (ws : List Cond) (F L mc ms : Nat) (D : va_G) (E : Ety) (ly : Nat → Nat) (kA : Nat → ClassId) (n : List Nat) (A : Nat → Prop) (av : List Value) (wp : St → (List Nat → Nat → St → Prop) → Prop) : Prop :=
  ∀ (S : St) (Q : List Nat → Nat → St → Prop), Met l y ws { frames := F, cells := mc, slots := ms, locals := L } (va_Pc av (fun U => (Gp D E ly n A kA S U ∧ ∀ q, U.heap.size ≤ q → A q) ∧ wp S Q)) (va_Qr (fun (u : List Nat × Nat × St) => Q u.1 u.2.1 u.2.2) (fun u a t => a = ly u.2.1 ∧ (∀ c ∈ n, c ∈ u.1) ∧ Gp D E ly u.1 A kA u.2.2 t) A) mc ms A
theorem g_blind {D : va_G} {E : Ety} {ly : Nat → Nat} {n : List Nat} {A : Nat → Prop} {kA : Nat → ClassId} {S : St} {av : List Value} {P : Prop} : FrameBlind (va_Pc av (fun U => (Gp D E ly n A kA S U ∧ ∀ q, U.heap.size ≤ q → A q) ∧ P)) := by
  intro a U g mk ⟨h1, ⟨h2, h3⟩, h6⟩
  have h := k_blind (D := D) (E := E) (ly := ly) (n := n) (A := A) (kA := kA) (S := S) (av := av) (P := P) a U g mk ⟨h1, h2, h6⟩
  exact ⟨h1, ⟨h.2.1, h3⟩, h6⟩
section GR
variable {p : Program} {l : Launch} {e : Env} {R : Room} {s : State} {m : MethodId} {args : Array Value} {below : List Frame} {meth : Method} {c : Code} {H : Heap} {locs : List Loc} {cells slots : Nat} {Qw : State → Prop}
variable {cc : ByteArray} {pc : Nat} {ls : Array Slot} {rest st0 : List Value} {a : Array Value} {D : va_G} {E : Ety} {ly : Nat → Nat} {n : List Nat} {A : Nat → Prop} {H0 : Heap} {S : St} {kA : Nat → ClassId}
theorem k_new (hx : p.tables.exec = Jvm.exec) (hb : c.code = cc) {own C : String} {T : u_T} {N ci index : Nat} {Ts : List Cond} (hts : ∀ w ∈ Ts, w.before args s = true) (hin : ∀ w ∈ u_ws C T N, w ∈ Ts) (ty : Nat → FieldType) (hty : ∀ k, k < N → parseFieldDescriptor (T k).2.2.1 = some (ty k)) (hown : s.vm.findClass own = some m.cls) (hcl : (Cond.classLink own index C).before args s = true) (hinst : (Cond.instantiable C N).before args s = true) (hini : (Cond.initialized C).before args s = true)
    (hK : va_K D vwCl (tysC kA) s) (hH : Hp D E ly n A H0 S H locs) (hA : ∀ q, H0.size ≤ q → A q) (hc : vwCl[ci]? = some (C, T, N)) {fs : List Value} (hfs : ∀ j, j < N → defaultValue (ty j) = vp_V fs j) (hcells : cells + 1 ≤ R.cells) (hslots : slots + N ≤ R.slots) (hdg : decode cc pc = .ok (.new index, 3))
    (kk : ∀ (q : Nat) (H1 : Heap), Hp D E ly n A H0 S H1 locs → va_P D vwCl [(q, .inr (ci, fs))] H1 → A q → (∀ c ∈ n, ly c ≠ q) → W p l e R s m args below meth c H1 locs (cells + 1) (slots + N) Qw (F0 m (pc + 3) ls (.ref q :: rest))) : W p l e R s m args below meth c H locs cells slots Qw (F0 m pc ls rest) :=
  va_new hx hb hts hin ty hty hown hcl hinst hini hK hH.1 hH.2.1 hH.2.2 hA hc hfs hcells hslots hdg (fun q H1 hP hD hS => kk q H1 ⟨hP.lft, hD.lft, hS⟩ hP.rgt (grow_apart hD).1 (grow_apart hD).2)
theorem g_pre (hK : va_K D vwCl (tysC kA) s) (hN : NW s) (hH : Hp D E ly n A s.heap S H locs) (hA : ∀ q, s.heap.size ≤ q → A q) {av : List Value} {P : Prop} (hw : P) : ∀ U : State, U.heap = H → s.WarmedH U.vm → va_Pc av (fun U => (Gp D E ly n A kA S U ∧ ∀ q, U.heap.size ≤ q → A q) ∧ P) av.toArray U :=
  fun U hU hW => ⟨rfl, ⟨⟨by rw [hU]; exact hH.1, hH.2.1, va_K.moved hW.alike hK, hN.warm hW⟩, fun q hq => hA q (Nat.le_trans hH.2.2.1 (by rw [← hU]; exact hq))⟩, hw⟩
theorem g_iret (hx : p.tables.exec = Jvm.exec) (hb : c.code = cc) (hr : meth.sig.returnType = some .int) (hlocks : meth.locks = false) (hK : va_K D vwCl (tysC kA) s) (hN : NW s) {n0 : List Nat} (hsub : ∀ c ∈ n0, c ∈ n) (hH : Hp D E ly n A s.heap S H locs) {Q : List Nat → Int32 → St → Prop} {v : Int32} (hw : Q n v S) (hdg : decode cc pc = .ok (.ireturn, 1)) : W p l e R s m args below meth c H locs cells slots (MQ below (va_Qi (fun r (u : List Nat × St) => Q u.1 r u.2) (fun u t => (∀ c ∈ n0, c ∈ u.1) ∧ Gp D E ly u.1 A kA u.2 t) A) args s cells slots A) (F0 m pc ls [.int v]) :=
  W.iret hx hb hr (fun t ht hW => ⟨⟨_, (n, S), rfl, hw, hsub, by rw [ht]; exact hH.1, hH.2.1, va_K.moved hW.alike hK, hN.warm hW⟩, hH.2.2.F ht⟩) hH.2.2.2.2 hdg hlocks
theorem g_aret (hx : p.tables.exec = Jvm.exec) (hb : c.code = cc) {C : String} (hr : meth.sig.returnType = some (.object C)) (hlocks : meth.locks = false) (hK : va_K D vwCl (tysC kA) s) (hN : NW s) {n0 : List Nat} (hsub : ∀ c ∈ n0, c ∈ n) (hH : Hp D E ly n A s.heap S H locs) {Q : List Nat → Nat → St → Prop} {o : Nat} (hw : Q n o S) (hdg : decode cc pc = .ok (.areturn, 1)) : W p l e R s m args below meth c H locs cells slots (MQ below (va_Qr (fun (u : List Nat × Nat × St) => Q u.1 u.2.1 u.2.2) (fun u a t => a = ly u.2.1 ∧ (∀ c ∈ n0, c ∈ u.1) ∧ Gp D E ly u.1 A kA u.2.2 t) A) args s cells slots A) (F0 m pc ls [.ref (ly o)]) :=
  W.aret hx hb hr (Or.inl ⟨C, rfl⟩) (Or.inr ⟨_, rfl⟩) (fun t ht hW => ⟨⟨(n, o, S), ly o, rfl, hw, rfl, hsub, by rw [ht]; exact hH.1, hH.2.1, va_K.moved hW.alike hK, hN.warm hW⟩, hH.2.2.F ht⟩) hH.2.2.2.2 hdg hlocks
theorem g_aftr {mc ms : Nat} {Q : List Nat → Nat → St → Prop} (hr : va_Run p l e R s m args below meth c H locs cells slots mc ms (F0 m pc ls st0) rest (va_Qr (fun (u : List Nat × Nat × St) => Q u.1 u.2.1 u.2.2) (fun u a t => a = ly u.2.1 ∧ (∀ c ∈ n, c ∈ u.1) ∧ Gp D E ly u.1 A kA u.2.2 t) A a) A) (hH : Hp D E ly n A H0 S H locs)
    (kk : ∀ (n1 : List Nat) (o : Nat) (S1 : St) (H1 : Heap) (locs1 : List Loc), Q n1 o S1 → (∀ c ∈ n, c ∈ n1) → Hp D E ly n1 A H0 S1 H1 locs1 → W p l e R s m args below meth c H1 locs1 (cells + mc) (slots + ms) Qw (F0 m (pc + 3) ls (.ref (ly o) :: rest))) : W p l e R s m args below meth c H locs cells slots Qw (F0 m pc ls st0) :=
  va_callr hr hH.2.2 (fun _ _ h => h) (fun _ h => h) (fun u x t H1 locs1 ht hvm hp hb hz hk hS => by
    obtain ⟨rfl, hs, hb⟩ := hb
    exact kk u.1 u.2.1 u.2.2 H1 locs1 hp hs ⟨by rw [← ht]; exact hb.1, hb.2.1, hS⟩)
/-- the new thing's own constructor has run: it gets its code -/
theorem k_initT {q ci : Nat} {x y : Int32} {w0 : va_W} (hw0 : w0 = [(q, .inr (ci, [.int 0, .int 0, .null]))]) (hr : va_Run p l e R s m args below meth c H locs cells slots 0 0 (F0 m pc ls st0) rest (va_Qv (fun _ : (Nat → Nat) × (Nat → ClassId) => True) (fun _ t => va_P D vwCl [(q, .inr (ci, [.int x, .int y, .ref (ly 7)]))] t.heap ∧ va_K D vwCl [] t ∧ va_D (va_A w0 H.size) [(q, .inr (ci, [.int x, .int y, .ref (ly 7)]))]) (va_A w0 H.size) a) (va_A w0 H.size))
    (hH : Hp D (Ec kA ly) ly n A H0 S H locs) (hA : ∀ q, H0.size ≤ q → A q) (hAq : A q) (hap : ∀ c ∈ n, ly c ≠ q) (hly : ∀ q, ly (59 + q) = q)
    (kk : ∀ (H1 : Heap) (locs1 : List Loc), Hp D (Ec kA ly) ly (n ++ [59 + q]) A H0 (sTh S (59 + q) ci x y) H1 locs1 → W p l e R s m args below meth c H1 locs1 cells slots Qw (F0 m (pc + 3) ls rest)) : W p l e R s m args below meth c H locs cells slots Qw (F0 m pc ls st0) := by
  subst hw0
  have hsz : H0.size ≤ H.size := hH.2.2.1
  have hF : ∀ b, va_A [(q, .inr (ci, [.int 0, .int 0, .null]))] H.size b → A b := by
    intro b hb
    rcases hb with ⟨k, e', hb⟩ | hb
    · have hk : k = 0 := by
        have := (List.getElem?_eq_some_iff.mp hb).1
        simpa using this
      subst hk
      cases hb
      exact hAq
    · exact hA b (Nat.le_trans hsz hb)
  refine va_callv hr hH.2.2 (fun b _ h => hF b h) hF (fun u t H1 locs1 ht hvm hp hb hz hk hS => ?_)
  obtain ⟨hP1, -, -⟩ := hb
  rw [ht] at hP1
  have hP : va_P D vwCl (WS (Ec kA ly) ly n S) H1 := hH.1.kept (fun k x hk2 => hk x.1 ((hH.1 k x hk2).lt) (by
    rintro (⟨k', e', hb⟩ | hb)
    · have hk' : k' = 0 := by
        have := (List.getElem?_eq_some_iff.mp hb).1
        simpa using this
      subst hk'
      have hq : q = x.1 := congrArg Prod.fst (Option.some.inj hb)
      unfold WS at hk2
      rw [List.getElem?_map] at hk2
      cases hc : n[k]? with
      | none => rw [hc] at hk2; cases hk2
      | some c0 =>
        rw [hc] at hk2
        cases hk2
        exact hap c0 (List.mem_of_getElem? hc) hq.symm
    · have := (hH.1 k x hk2).lt
      omega))
  have e1 := WS_push (E := Ec kA ly) (S := S) (S' := sTh S (59 + q) ci x y) (hly q) hap (sTh_off S (59 + q) ci x y) (sTh_E (kA := kA) (ly := ly) S ci x y (Nat.le_add_right 59 q))
  refine kk H1 locs1 ⟨?_, ?_, hS⟩
  · rw [← e1]
    exact hP.app hP1
  · rw [← e1]
    refine hH.2.1.app ⟨fun i j p' q' hi hj _ => ?_, fun k x hx => ?_⟩ (fun i j p' q' hi hj => ?_)
    · have h1 := (List.getElem?_eq_some_iff.mp hi).1
      have h2 := (List.getElem?_eq_some_iff.mp hj).1
      simp at h1 h2
      omega
    · have h1 := (List.getElem?_eq_some_iff.mp hx).1
      have hk0 : k = 0 := by simpa using h1
      subst hk0
      cases hx
      exact hAq
    · have h2 := (List.getElem?_eq_some_iff.mp hj).1
      have hj0 : j = 0 := by simpa using h2
      subst hj0
      cases hj
      unfold WS at hi
      rw [List.getElem?_map] at hi
      cases hc : n[i]? with
      | none => rw [hc] at hi; cases hi
      | some c0 =>
        rw [hc] at hi
        cases hi
        exact hap c0 (List.mem_of_getElem? hc)
end GR
/-- a new sheet at d, its items at d2 -/
def sSh (S : St) (d d2 : Nat) (x : Int32) (k : Nat) : St := sR (sN (sN (sI (sN (sN S d 9 0) d 1 d2) d 0 x) d2 9 1) d2 0 k) d2 (fun _ => 0)
theorem sN_ne (S : St) {c c' : Nat} (k v : Nat) (h : c' ≠ c) : gN (sN S c k v) c' = gN S c' := by show up2 _ _ _ _ c' = _; unfold up2; rw [if_neg h]; rfl
theorem sSh_is (S : St) {n : List Nat} {q q2 : Nat} {x : Int32} {k : Nat} (h : ∀ c ∈ n ++ [59 + q], c ≠ 59 + q2) : isSh (n ++ [59 + q] ++ [59 + q2]) (sSh S (59 + q) (59 + q2) x k) (59 + q) := by
  have hne : 59 + q ≠ 59 + q2 := h _ (List.mem_append_right _ List.mem_cons_self)
  refine ⟨Nat.le_add_right _ _, List.mem_append_left _ (List.mem_append_right _ List.mem_cons_self), ?_⟩
  show gN (sN (sN (sI (sN (sN S (59 + q) 9 0) (59 + q) 1 (59 + q2)) (59 + q) 0 x) (59 + q2) 9 1) (59 + q2) 0 k) (59 + q) 9 = 0
  rw [sN_ne _ _ _ hne, sN_ne _ _ _ hne]
  show gN (sN (sN S (59 + q) 9 0) (59 + q) 1 (59 + q2)) (59 + q) 9 = 0
  rw [gN_sN, gN_sN]
  rfl
section GS
variable {p : Program} {l : Launch} {e : Env} {R : Room} {s : State} {m : MethodId} {args : Array Value} {below : List Frame} {meth : Method} {c : Code} {H : Heap} {locs : List Loc} {cells slots : Nat} {Qw : State → Prop}
variable {pc : Nat} {ls : Array Slot} {rest st0 : List Value} {a : Array Value} {D : va_G} {ly : Nat → Nat} {n : List Nat} {A : Nat → Prop} {H0 : Heap} {S : St} {kA : Nat → ClassId}
theorem k_initS {q : Nat} {x y : Int32} {w0 : va_W} (hw0 : w0 = [(q, .inr (6, [.int 0, .null]))]) (hr : va_Run p l e R s m args below meth c H locs cells slots 1 40 (F0 m pc ls st0) rest (va_Qv (fun _ : (Nat → Nat) × (Nat → ClassId) => True) (fun u t => va_P D vwCl [(q, .inr (6, [.int x, .ref (u.1 0)])), ((u.1 0), .inl ((u.2 0), y.toNatClampNeg, .inl (fun _ => 0)))] t.heap ∧ va_K D vwCl [((u.2 0), .int)] t ∧ va_D (va_A w0 H.size) [(q, .inr (6, [.int x, .ref (u.1 0)])), ((u.1 0), .inl ((u.2 0), y.toNatClampNeg, .inl (fun _ => 0)))]) (va_A w0 H.size) a) (va_A w0 H.size))
    (hK : va_K D vwCl (tysC kA) s) (hH : Hp D (Ec kA ly) ly n A H0 S H locs) (hA : ∀ q, H0.size ≤ q → A q) (hAq : A q) (hap : ∀ c ∈ n, ly c ≠ q) (hly : ∀ q, ly (59 + q) = q)
    (kk : ∀ (q2 : Nat) (H1 : Heap) (locs1 : List Loc), (∀ c ∈ n ++ [59 + q], c ≠ 59 + q2) → Hp D (Ec kA ly) ly (n ++ [59 + q] ++ [59 + q2]) A H0 (sSh S (59 + q) (59 + q2) x y.toNatClampNeg) H1 locs1 → W p l e R s m args below meth c H1 locs1 (cells + 1) (slots + 40) Qw (F0 m (pc + 3) ls rest)) : W p l e R s m args below meth c H locs cells slots Qw (F0 m pc ls st0) := by
  subst hw0
  have hsz : H0.size ≤ H.size := hH.2.2.1
  have hone : ∀ b, va_A [(q, .inr (6, [.int 0, .null]))] H.size b → b = q ∨ H.size ≤ b := by
    rintro b (⟨k, e', hb⟩ | hb)
    · have hk : k = 0 := by
        have := (List.getElem?_eq_some_iff.mp hb).1
        simpa using this
      subst hk
      cases hb
      exact Or.inl rfl
    · exact Or.inr hb
  have hF : ∀ b, va_A [(q, .inr (6, [.int 0, .null]))] H.size b → A b := by
    intro b hb
    rcases hone b hb with h | h
    · rw [h]; exact hAq
    · exact hA b (Nat.le_trans hsz h)
  have hcell : ∀ (k : Nat) (z : Nat × va_E), (WS (Ec kA ly) ly n S)[k]? = some z → z.1 < H.size ∧ z.1 ≠ q := by
    intro k z hz
    refine ⟨(hH.1 k z hz).lt, ?_⟩
    unfold WS at hz
    rw [List.getElem?_map] at hz
    cases hc : n[k]? with
    | none => rw [hc] at hz; cases hz
    | some c0 =>
      rw [hc] at hz
      cases hz
      exact hap c0 (List.mem_of_getElem? hc)
  refine va_callv hr hH.2.2 (fun b _ h => hF b h) hF (fun u t H1 locs1 ht hvm hp hb hz hk hS => ?_)
  obtain ⟨hP1, hK1, hD1⟩ := hb
  rw [ht] at hP1
  have hK1 := va_K.moved hvm.symm hK1
  obtain ⟨q2, hq2⟩ : ∃ z, z = u.1 0 := ⟨_, rfl⟩
  obtain ⟨cA, hcA⟩ : ∃ z, z = u.2 0 := ⟨_, rfl⟩
  rw [← hq2, ← hcA] at hP1 hD1
  rw [← hcA] at hK1
  have hcA0 : cA = kA 0 := K_same (hK1.app hK) 0 1 rfl rfl
  subst hcA0
  have h20 : va_A [(q, .inr (6, [.int 0, .null]))] H.size q2 := hD1.2 1 _ rfl
  have h2ne : q2 ≠ q := fun h => absurd (hD1.1 1 0 _ _ rfl rfl h) (by decide)
  have h2sz : H.size ≤ q2 := (hone q2 h20).resolve_left h2ne
  have hfr : ∀ c ∈ n ++ [59 + q], c ≠ 59 + q2 := by
    intro c0 hc0 h
    rcases List.mem_append.mp hc0 with h1 | h1
    · obtain ⟨i, -, hi⟩ := WS_at (E := Ec kA ly) (ly := ly) (S := S) h1
      have h3 := (hcell i _ (hi rfl)).1
      rw [h] at h3
      have h4 : ly (59 + q2) < H.size := h3
      rw [hly] at h4
      omega
    · have h5 : c0 = 59 + q := by simpa using h1
      omega
  have hP : va_P D vwCl (WS (Ec kA ly) ly n S) H1 := hH.1.kept (fun k z hz2 => hk z.1 (hcell k z hz2).1 (fun hb => by
    rcases hone _ hb with h | h
    · exact (hcell k z hz2).2 h
    · have := (hcell k z hz2).1
      omega))
  have hne : 59 + q ≠ 59 + q2 := hfr _ (List.mem_append_right _ List.mem_cons_self)
  -- the sheet's code, with what its items will be
  have S1off : Off S (sI (sN (sN S (59 + q) 9 0) (59 + q) 1 (59 + q2)) (59 + q) 0 x) (59 + q) := ((off_N S _ 9 0).trans (off_N _ _ 1 (59 + q2))).trans (off_I _ _ 0 x)
  have S1E : Ec kA ly (59 + q) (gI (sI (sN (sN S (59 + q) 9 0) (59 + q) 1 (59 + q2)) (59 + q) 0 x) (59 + q)) (gA (sI (sN (sN S (59 + q) 9 0) (59 + q) 1 (59 + q2)) (59 + q) 0 x) (59 + q)) (gN (sI (sN (sN S (59 + q) 9 0) (59 + q) 1 (59 + q2)) (59 + q) 0 x) (59 + q)) (gL (sI (sN (sN S (59 + q) 9 0) (59 + q) 1 (59 + q2)) (59 + q) 0 x) (59 + q)) = .inr (6, [.int x, .ref q2]) := by
    have e9 : gN (sI (sN (sN S (59 + q) 9 0) (59 + q) 1 (59 + q2)) (59 + q) 0 x) (59 + q) = up1 (up1 (gN S (59 + q)) 9 0) 1 (59 + q2) := by show gN (sN (sN S (59 + q) 9 0) (59 + q) 1 (59 + q2)) (59 + q) = _; rw [gN_sN, gN_sN]
    rw [Ec_dy (Nat.le_add_right _ _), e9, if_pos (show up1 (up1 (gN S (59 + q)) 9 0) 1 (59 + q2) 9 = 0 from rfl), gI_sI]
    rw [show up1 (up1 (gN S (59 + q)) 9 0) 1 (59 + q2) 1 = 59 + q2 from rfl, hly]
    rfl
  have e1 := WS_push (E := Ec kA ly) (ly := ly) (n := n) (hly q) hap S1off S1E
  have hap2 : ∀ c ∈ n ++ [59 + q], ly c ≠ q2 := by
    intro c0 hc0 h
    rcases List.mem_append.mp hc0 with h1 | h1
    · obtain ⟨i, -, hi⟩ := WS_at (E := Ec kA ly) (ly := ly) (S := S) h1
      have h3 : ly c0 < H.size := (hcell i _ (hi rfl)).1
      omega
    · have h5 : c0 = 59 + q := by simpa using h1
      rw [h5, hly] at h
      exact h2ne h.symm
  have S2off : Off (sI (sN (sN S (59 + q) 9 0) (59 + q) 1 (59 + q2)) (59 + q) 0 x) (sSh S (59 + q) (59 + q2) x y.toNatClampNeg) (59 + q2) := ((off_N _ _ 9 1).trans (off_N _ _ 0 _)).trans (off_R _ _ _)
  have S2E : Ec kA ly (59 + q2) (gI (sSh S (59 + q) (59 + q2) x y.toNatClampNeg) (59 + q2)) (gA (sSh S (59 + q) (59 + q2) x y.toNatClampNeg) (59 + q2)) (gN (sSh S (59 + q) (59 + q2) x y.toNatClampNeg) (59 + q2)) (gL (sSh S (59 + q) (59 + q2) x y.toNatClampNeg) (59 + q2)) = .inl (kA 0, y.toNatClampNeg, .inl (fun _ => 0)) := by
    have e9 : ∀ T : St, gN (sR (sN (sN T (59 + q2) 9 1) (59 + q2) 0 y.toNatClampNeg) (59 + q2) (fun _ => 0)) (59 + q2) = up1 (up1 (gN T (59 + q2)) 9 1) 0 y.toNatClampNeg := fun T => by show gN (sN (sN T (59 + q2) 9 1) (59 + q2) 0 y.toNatClampNeg) (59 + q2) = _; rw [gN_sN, gN_sN]
    unfold sSh
    rw [Ec_dy (Nat.le_add_right _ _), e9, if_neg (show ¬ up1 (up1 _ 9 1) 0 _ 9 = 0 from fun h => absurd (show (1 : Nat) = 0 from h) (by decide)), if_pos (show up1 (up1 _ 9 1) 0 _ 9 = 1 from rfl), gA_sR]
    rfl
  have e2 := WS_push (E := Ec kA ly) (ly := ly) (n := n ++ [59 + q]) (hly q2) hap2 S2off S2E
  refine kk q2 H1 locs1 hfr ⟨?_, ?_, hS⟩
  · rw [← e2, ← e1, List.append_assoc]
    exact hP.app hP1
  · rw [← e2, ← e1, List.append_assoc]
    refine hH.2.1.app (hD1.weaken (fun _ _ _ h => hF _ h)) (fun i j p' q' hi hj h => ?_)
    have h1 := hcell i p' hi
    have h3 := hone _ (hD1.2 j q' hj)
    rw [← h] at h3
    rcases h3 with h4 | h4
    · exact h1.2 h4
    · have := h1.1
      omega
end GS
