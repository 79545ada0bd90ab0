/-! THE LAW'S WORLD: the class's cells and the reference's, apart; what a call of either leaves. -/
def rcs : List Nat := List.range 20
def Ac (ly : Nat → Nat) (n : List Nat) : Nat → Prop := fun q => ∃ c ∈ n, q = ly c
def L2 (D : va_G) (kA : Nat → ClassId) (lyc lyr : Nat → Nat) (n : List Nat) (H0 : Heap) (S T : St) (H : Heap) (locs : List Loc) : Prop :=
  va_P D vwCl (WS (Ec kA lyc) lyc n S) H ∧ va_P D vwCl (WS (Er kA lyr) lyr rcs T) H ∧ va_D (fun q : Nat => H0.size ≤ q) (WS (Ec kA lyc) lyc n S) ∧ va_D (fun q : Nat => H0.size ≤ q) (WS (Er kA lyr) lyr rcs T) ∧ (∀ c ∈ n, ∀ d ∈ rcs, lyc c ≠ lyr d) ∧ va_S (fun q : Nat => H0.size ≤ q) H0 H locs
theorem WS_mem {E : Ety} {ly : Nat → Nat} {n : List Nat} {S : St} {k : Nat} {z : Nat × va_E} (h : (WS E ly n S)[k]? = some z) : ∃ c ∈ n, n[k]? = some c ∧ z = (ly c, E c (gI S c) (gA S c) (gN S c) (gL S c)) := by
  unfold WS at h
  rw [List.getElem?_map] at h
  cases hc : n[k]? with
  | none => rw [hc] at h; cases h
  | some c =>
    rw [hc] at h
    exact ⟨c, List.mem_of_getElem? hc, rfl, (Option.some.inj h).symm⟩
theorem WS_D {E : Ety} {ly : Nat → Nat} {n : List Nat} {S S' : St} {A B : Nat → Prop} (h : va_D A (WS E ly n S)) (hB : ∀ c ∈ n, B (ly c)) : va_D B (WS E ly n S') := by
  refine ⟨fun i j p q hi hj e => ?_, fun k z hz => ?_⟩
  · obtain ⟨c, hc, hc1, rfl⟩ := WS_mem hi
    obtain ⟨d, hd, hd1, rfl⟩ := WS_mem hj
    exact h.1 i j (ly c, E c (gI S c) (gA S c) (gN S c) (gL S c)) (ly d, E d (gI S d) (gA S d) (gN S d) (gL S d)) (by simp [WS, hc1]) (by simp [WS, hd1]) e
  · obtain ⟨c, hc, -, rfl⟩ := WS_mem hz
    exact hB c hc
theorem WS_A {E : Ety} {ly : Nat → Nat} {n : List Nat} {S : St} {A : Nat → Prop} (h : va_D A (WS E ly n S)) {c : Nat} (hc : c ∈ n) : A (ly c) := by
  obtain ⟨i, -, hi⟩ := WS_at (E := E) (ly := ly) (S := S) hc
  exact h.2 i _ (hi rfl)
theorem WS_lt {D : va_G} {E : Ety} {ly : Nat → Nat} {n : List Nat} {S : St} {H : Heap} (h : va_P D vwCl (WS E ly n S) H) {c : Nat} (hc : c ∈ n) : ly c < H.size := by
  obtain ⟨i, -, hi⟩ := WS_at (E := E) (ly := ly) (S := S) hc
  exact (h i _ (hi rfl)).lt
theorem WS_keep {D : va_G} {E : Ety} {ly : Nat → Nat} {n : List Nat} {S : St} {H H1 : Heap} (h : va_P D vwCl (WS E ly n S) H) (hk : ∀ c ∈ n, H1[ly c]? = H[ly c]?) : va_P D vwCl (WS E ly n S) H1 :=
  h.kept (fun k z hz => by
    obtain ⟨c, hc, -, rfl⟩ := WS_mem hz
    exact hk c hc)
section LR
variable {p : Program} {l : Launch} {e : Env} {R : Room} {s : State} {m : MethodId} {args : Array Value} {below : List Frame} {meth : Method} {c : Code} {H : Heap} {locs : List Loc} {cells slots : Nat} {Qw : State → Prop}
variable {pc : Nat} {ls : Array Slot} {rest st0 : List Value} {a : Array Value} {D : va_G} {kA : Nat → ClassId} {lyc lyr : Nat → Nat} {n : List Nat} {H0 : Heap} {S T : St}
theorem L2.preC (hL : L2 D kA lyc lyr n H0 S T H locs) (hK : va_K D vwCl (tysC kA) s) (hN : NW s) {av : List Value} {P : Prop} (hw : P) : ∀ U : State, U.heap = H → s.WarmedH U.vm → va_Pc av (fun U => Gp D (Ec kA lyc) lyc n (Ac lyc n) kA S U ∧ P) av.toArray U :=
  fun U hU hW => ⟨rfl, ⟨by rw [hU]; exact hL.1, WS_D hL.2.2.1 (fun c hc => ⟨c, hc, rfl⟩), va_K.moved hW.alike hK, hN.warm hW⟩, hw⟩
theorem L2.preR (hL : L2 D kA lyc lyr n H0 S T H locs) (hK : va_K D vwCl (tysC kA) s) (hN : NW s) {av : List Value} {P : Prop} (hw : P) : ∀ U : State, U.heap = H → s.WarmedH U.vm → va_Pc av (fun U => Gp D (Er kA lyr) lyr rcs (Ac lyr rcs) kA T U ∧ P) av.toArray U :=
  fun U hU hW => ⟨rfl, ⟨by rw [hU]; exact hL.2.1, WS_D hL.2.2.2.1 (fun c hc => ⟨c, hc, rfl⟩), va_K.moved hW.alike hK, hN.warm hW⟩, hw⟩
theorem L2.preG (hL : L2 D kA lyc lyr n H0 S T H locs) (hK : va_K D vwCl (tysC kA) s) (hN : NW s) {av : List Value} {P : Prop} (hw : P) : ∀ U : State, U.heap = H → s.WarmedH U.vm → va_Pc av (fun U => (Gp D (Ec kA lyc) lyc n (fun q => Ac lyc n q ∨ H.size ≤ q) kA S U ∧ ∀ q, U.heap.size ≤ q → (fun q => Ac lyc n q ∨ H.size ≤ q) q) ∧ P) av.toArray U :=
  fun U hU hW => ⟨rfl, ⟨⟨by rw [hU]; exact hL.1, WS_D hL.2.2.1 (fun c hc => Or.inl ⟨c, hc, rfl⟩), va_K.moved hW.alike hK, hN.warm hW⟩, fun q hq => Or.inr (by rw [← hU]; exact hq)⟩, hw⟩
theorem L2.preS {adK adV : Nat → Nat} (hL : L2 D kA lyc lyr n s.heap S T H locs) (hK : va_K D vwCl (tysC kA) s) (hN : NW s) (hX : SX adK adV (fun q : Nat => s.heap.size ≤ q) s s.heap) {av : List Value} {P : Prop} (hw : P) : ∀ U : State, U.heap = H → s.WarmedH U.vm → va_Pc av (fun U => (Gp D (Ec kA lyc) lyc n (Ac lyc n) kA S U ∧ SX adK adV (Ac lyc n) U U.heap) ∧ P) av.toArray U := by
  intro U hU hW
  have h1 : SX adK adV (fun q : Nat => s.heap.size ≤ q) U U.heap := hX.go hW (by rw [hU]; exact hL.2.2.2.2.2.2.1)
  have hn : ∀ q, Ac lyc n q → (fun q : Nat => s.heap.size ≤ q) q := by
    rintro q ⟨c, hc, rfl⟩
    exact WS_A hL.2.2.1 hc
  exact ⟨rfl, ⟨⟨by rw [hU]; exact hL.1, WS_D hL.2.2.1 (fun c hc => ⟨c, hc, rfl⟩), va_K.moved hW.alike hK, hN.warm hW⟩, ⟨h1.1.narrow hn, h1.2.1.narrow hn, h1.2.2.1.narrow hn, h1.2.2.2⟩⟩, hw⟩
theorem L2.recvC (hL : L2 D kA lyc lyr n H0 S T H locs) (hK : va_K D vwCl (tysC kA) s) (hn : ∀ c, c < 59 → c ∈ n) : ∃ cell : Cell, H[lyc 0]? = some cell ∧ cell.vm.isStatics = false ∧ s.vm.findClass RX11 = some cell.cls := by
  obtain ⟨i, -, hi⟩ := WS_at (E := Ec kA lyc) (ly := lyc) (S := S) (hn 0 (by decide))
  exact va_recv hK hL.1 (ci := 11) (q := (RX11, TX11, 12)) rfl (hi Ec_0)
theorem L2.recvR (hL : L2 D kA lyc lyr n H0 S T H locs) (hK : va_K D vwCl (tysC kA) s) : ∃ cell : Cell, H[lyr 0]? = some cell ∧ cell.vm.isStatics = false ∧ s.vm.findClass RX12 = some cell.cls := by
  obtain ⟨i, -, hi⟩ := WS_at (E := Er kA lyr) (ly := lyr) (S := T) (n := rcs) (c := 0) (by decide)
  exact va_recv hK hL.2.1 (ci := 12) (q := (RX12, TX12, 39)) rfl (hi Er_0)
theorem L2.aftC {Q : Int32 → St → Prop} (hr : va_Run p l e R s m args below meth c H locs cells slots 0 0 (F0 m pc ls st0) rest (va_Qi Q (Gp D (Ec kA lyc) lyc n (Ac lyc n) kA) (Ac lyc n) a) (Ac lyc n)) (hL : L2 D kA lyc lyr n H0 S T H locs)
    (kk : ∀ (r : Int32) (S1 : St) (H1 : Heap) (locs1 : List Loc), Q r S1 → L2 D kA lyc lyr n H0 S1 T H1 locs1 → W p l e R s m args below meth c H1 locs1 cells slots Qw (F0 m (pc + 3) ls (.int r :: rest))) : W p l e R s m args below meth c H locs cells slots Qw (F0 m pc ls st0) := by
  have hsub : ∀ q, Ac lyc n q → H0.size ≤ q := by
    rintro q ⟨c, hc, rfl⟩
    exact WS_A hL.2.2.1 hc
  refine va_calli hr hL.2.2.2.2.2 (fun q _ h => hsub q h) (fun q h => hsub q h) (fun r u t H1 locs1 ht hvm hp hb hz hk hS => kk r u H1 locs1 hp ⟨by rw [← ht]; exact hb.1, WS_keep hL.2.1 (fun d hd => hk _ (WS_lt hL.2.1 hd) ?_), WS_D hL.2.2.1 (fun c hc => WS_A hL.2.2.1 hc), hL.2.2.2.1, hL.2.2.2.2.1, hS⟩)
  rintro ⟨c, hc, h⟩
  exact hL.2.2.2.2.1 c hc d hd h.symm
theorem L2.aftR {Q : Int32 → St → Prop} (hr : va_Run p l e R s m args below meth c H locs cells slots 0 0 (F0 m pc ls st0) rest (va_Qi Q (Gp D (Er kA lyr) lyr rcs (Ac lyr rcs) kA) (Ac lyr rcs) a) (Ac lyr rcs)) (hL : L2 D kA lyc lyr n H0 S T H locs)
    (kk : ∀ (r : Int32) (T1 : St) (H1 : Heap) (locs1 : List Loc), Q r T1 → L2 D kA lyc lyr n H0 S T1 H1 locs1 → W p l e R s m args below meth c H1 locs1 cells slots Qw (F0 m (pc + 3) ls (.int r :: rest))) : W p l e R s m args below meth c H locs cells slots Qw (F0 m pc ls st0) := by
  have hsub : ∀ q, Ac lyr rcs q → H0.size ≤ q := by
    rintro q ⟨c, hc, rfl⟩
    exact WS_A hL.2.2.2.1 hc
  refine va_calli hr hL.2.2.2.2.2 (fun q _ h => hsub q h) (fun q h => hsub q h) (fun r u t H1 locs1 ht hvm hp hb hz hk hS => kk r u H1 locs1 hp ⟨WS_keep hL.1 (fun d hd => hk _ (WS_lt hL.1 hd) ?_), by rw [← ht]; exact hb.1, hL.2.2.1, WS_D hL.2.2.2.1 (fun c hc => WS_A hL.2.2.2.1 hc), hL.2.2.2.2.1, hS⟩)
  rintro ⟨c, hc, h⟩
  exact hL.2.2.2.2.1 d hd c hc h
theorem L2.aftG {mc ms : Nat} {Q : List Nat → Int32 → St → Prop} (hr : va_Run p l e R s m args below meth c H locs cells slots mc ms (F0 m pc ls st0) rest (va_Qi (fun r (u : List Nat × St) => Q u.1 r u.2) (fun u t => (∀ c ∈ n, c ∈ u.1) ∧ Gp D (Ec kA lyc) lyc u.1 (fun q => Ac lyc n q ∨ H.size ≤ q) kA u.2 t) (fun q => Ac lyc n q ∨ H.size ≤ q) a) (fun q => Ac lyc n q ∨ H.size ≤ q)) (hL : L2 D kA lyc lyr n H0 S T H locs)
    (kk : ∀ (n1 : List Nat) (r : Int32) (S1 : St) (H1 : Heap) (locs1 : List Loc), Q n1 r S1 → (∀ c ∈ n, c ∈ n1) → L2 D kA lyc lyr n1 H0 S1 T H1 locs1 → W p l e R s m args below meth c H1 locs1 (cells + mc) (slots + ms) Qw (F0 m (pc + 3) ls (.int r :: rest))) : W p l e R s m args below meth c H locs cells slots Qw (F0 m pc ls st0) := by
  have hsub : ∀ q, (Ac lyc n q ∨ H.size ≤ q) → H0.size ≤ q := by
    rintro q (⟨c, hc, rfl⟩ | h)
    · exact WS_A hL.2.2.1 hc
    · exact Nat.le_trans hL.2.2.2.2.2.1 h
  refine va_calli hr hL.2.2.2.2.2 (fun q _ h => hsub q h) (fun q h => hsub q h) (fun r u t H1 locs1 ht hvm hp hb hz hk hS => kk u.1 r u.2 H1 locs1 hp hb.1 ⟨by rw [← ht]; exact hb.2.1, WS_keep hL.2.1 (fun d hd => hk _ (WS_lt hL.2.1 hd) ?_), WS_D hb.2.2.1 (fun c hc => hsub _ (WS_A hb.2.2.1 hc)), hL.2.2.2.1, fun c hc d hd h => ?_, hS⟩)
  · rintro (⟨c, hc, h⟩ | h)
    · exact hL.2.2.2.2.1 c hc d hd h.symm
    · have := WS_lt hL.2.1 hd
      omega
  · rcases WS_A hb.2.2.1 hc with ⟨c2, hc2, h2⟩ | h2
    · exact hL.2.2.2.2.1 c2 hc2 d hd (by rw [← h2]; exact h)
    · have := WS_lt hL.2.1 hd
      rw [h] at h2
      omega
end LR
