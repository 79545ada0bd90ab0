/-! THE RELATION of the class's state S and the reference's state T. -/
/-- the class's world w tells views, loves, today, how many panes, the panes -/
def CW (S : St) (w : Nat) (V L : Nat → Nat) (t c : Nat) (p : Nat → AP) : Prop := NR (gA S (w + 1)) V 200 99 ∧ NR (gA S (w + 2)) L 12 9 ∧ gI S w 3 = nI c ∧ gI S w 4 = nI t ∧ ∀ j, j < c → RC (gI S (gN S (w + 3) j)) (gA S (gN S (w + 3) j + 1)) (p j)
def VW (t c : Nat) (p : Nat → AP) : Prop := t ≤ 50 ∧ c ≤ 6 ∧ ∀ j, j < c → VPa (p j)
/-- which worlds, whose panes: apart -/
def IC (S : St) : Prop := ((gN S 0 8 = 13 ∧ gN S 0 9 = 17) ∨ (gN S 0 8 = 17 ∧ gN S 0 9 = 13)) ∧ (∀ w p, isW w → p < 6 → isPn (gN S (w + 3) p) ∧ gN S (w + 3) p ≠ 57) ∧ ∀ w p w' p', isW w → isW w' → p < 6 → p' < 6 → gN S (w + 3) p = gN S (w' + 3) p' → w = w' ∧ p = p'
def FC (S : St) : Prop := ∀ P, isPn P → ∃ fc, fc < 16 ∧ gI S P 1 = nI fc
def Cur (S T : St) (V L : Nat → Nat) (t c : Nat) (p : Nat → AP) : Prop := CW S (gN S 0 8) V L t c p ∧ VW t c p ∧ NR (gA T 1) V 200 99 ∧ NR (gA T 2) L 12 9 ∧ RW (gA T 3) 0 t c p ∧ gI S (gN S 0 8) 5 = gI T 0 4
def RKept (S T : St) : Prop := gI S 0 10 = gI T 0 35 ∧ (gI T 0 35 = nI 0 ∨ (gI T 0 35 = nI 1 ∧ ∃ V L t c p, CW S 9 V L t c p ∧ VW t c p ∧ gI S 9 5 = gA T 18 0 ∧ NR (fun j => gA T 18 (1 + j)) V 200 99 ∧ NR (fun j => gA T 18 (201 + j)) L 12 9 ∧ RW (gA T 18) 213 t c p))
def RTape (S T : St) : Prop := ∃ k : Nat, k ≤ 200 ∧ gI S 1 1 = nI k ∧ gI T 0 6 = nI k ∧ ∀ j, j < k → gA S 2 j = gA T 4 j ∧ ∃ x : Nat, x < 256 ∧ gA T 4 j = nI x
def RRows (S T : St) : Prop := ∃ k : Nat, k ≤ 20 ∧ gI S 0 11 = nI k ∧ gI T 0 21 = nI k ∧ ∀ j, j < 3 * k → gA S 3 j = gA T 9 j
def SHok (n : List Nat) (S : St) (o : Nat) : Prop := isSh n S o ∧ isIt n S (gN S o 1) ∧ gN S (gN S o 1) 0 ≤ 40
/-- what the sheet o has: its sort, its size -/
def SHas (S : St) (o so k : Nat) : Prop := so < 4 ∧ k ≤ 40 ∧ gI S o 0 = nI so ∧ gN S (gN S o 1) 0 = k
def RSheets (n : List Nat) (S T : St) : Prop := (∀ s, s < 4 → (gN S 4 s = 0 ∧ gA T 11 s = mI 1) ∨ (¬ gN S 4 s = 0 ∧ SHok n S (gN S 4 s) ∧ ∃ so k : Nat, SHas S (gN S 4 s) so k ∧ gA T 11 s = nI so ∧ gA T 12 s = nI k ∧ ∀ j, j < k → gL T 13 (40 * s + j) = (gA S (gN S (gN S 4 s) 1) j).toInt64)) ∧ ∀ s s', s < 4 → s' < 4 → ¬ gN S 4 s = 0 → ¬ gN S 4 s' = 0 → gN S (gN S 4 s) 1 = gN S (gN S 4 s') 1 → s = s'
def RShelves (n : List Nat) (S T : St) : Prop := ∀ s, s < 4 → (gA T 14 s = mI 1 ∧ gA S 5 s = mI 1 ∧ gN S 6 s = 0) ∨ (∃ k : Nat, k < 6 ∧ gA T 14 s = nI 0 ∧ gA T 15 s = nI k ∧ gA S 5 s = nI k ∧ gN S 6 s = 0) ∨ (gA T 14 s = nI 1 ∧ gA S 5 s = mI 1 ∧ ¬ gN S 6 s = 0 ∧ SHok n S (gN S 6 s) ∧ ∃ so k : Nat, SHas S (gN S 6 s) so k ∧ gA T 15 s = nI so ∧ gA T 16 s = nI k)
def RTrace (S T : St) : Prop := ∃ k : Nat, k ≤ 30 ∧ gI S 7 1 = nI k ∧ gI T 0 33 = nI k ∧ ∀ j, j < k → gA S 8 j = gA T 17 j
def RO (n : List Nat) (S T : St) : Prop := RTape S T ∧ RRows S T ∧ RSheets n S T ∧ RShelves n S T ∧ RTrace S T
def Rel (n : List Nat) (S T : St) : Prop := IC S ∧ FC S ∧ gI T 0 3 = nI 0 ∧ (∃ V L t c p, Cur S T V L t c p) ∧ RKept S T ∧ RO n S T
theorem IC.w {S : St} (h : IC S) : isW (gN S 0 8) := by
  rcases h.1 with ⟨h1, -⟩ | ⟨h1, -⟩
  · exact Or.inr (Or.inl h1)
  · exact Or.inr (Or.inr h1)
theorem IC.w9 {S : St} (h : IC S) : gN S 0 8 ≠ 9 := by
  rcases h.1 with ⟨h1, -⟩ | ⟨h1, -⟩ <;> omega
/-! frames: what of the states must stay for what of the relation -/
def OS (S S' : St) : Prop := gI S' 1 1 = gI S 1 1 ∧ gA S' 2 = gA S 2 ∧ gI S' 0 11 = gI S 0 11 ∧ gA S' 3 = gA S 3 ∧ gN S' 4 = gN S 4 ∧ gA S' 5 = gA S 5 ∧ gN S' 6 = gN S 6 ∧ gI S' 7 1 = gI S 7 1 ∧ gA S' 8 = gA S 8 ∧ ∀ c, 59 ≤ c → gI S' c = gI S c ∧ gA S' c = gA S c ∧ gN S' c = gN S c
def OT (T T' : St) : Prop := gI T' 0 6 = gI T 0 6 ∧ gI T' 0 21 = gI T 0 21 ∧ gI T' 0 33 = gI T 0 33 ∧ gI T' 0 35 = gI T 0 35 ∧ gA T' 4 = gA T 4 ∧ gA T' 9 = gA T 9 ∧ (∀ c, 11 ≤ c → gA T' c = gA T c) ∧ gL T' 13 = gL T 13
theorem OS.refl (S : St) : OS S S := ⟨rfl, rfl, rfl, rfl, rfl, rfl, rfl, rfl, rfl, fun _ _ => ⟨rfl, rfl, rfl⟩⟩
theorem OT.refl (T : St) : OT T T := ⟨rfl, rfl, rfl, rfl, rfl, rfl, fun _ _ => rfl, rfl⟩
theorem SHok.of {n : List Nat} {S S' : St} {o : Nat} (h : SHok n S o) (hs : ∀ c, 59 ≤ c → gI S' c = gI S c ∧ gN S' c = gN S c) : SHok n S' o := by
  obtain ⟨⟨h1, h2, h3⟩, ⟨h4, h5, h6⟩, h7⟩ := h
  have e1 := (hs o h1).2
  unfold SHok isSh isIt
  rw [e1]
  have e2 := (hs _ h4).2
  rw [e2]
  exact ⟨⟨h1, h2, h3⟩, ⟨h4, h5, h6⟩, h7⟩
theorem SHas.of {n : List Nat} {S S' : St} {o so k : Nat} (h : SHas S o so k) (ho : SHok n S o) (hs : ∀ c, 59 ≤ c → gI S' c = gI S c ∧ gN S' c = gN S c) : SHas S' o so k := by
  unfold SHas
  rw [(hs o ho.1.1).1, (hs o ho.1.1).2, (hs _ ho.2.1.1).2]
  exact h
theorem RO.of {n : List Nat} {S S' T T' : St} (h : RO n S T) (hS : OS S S') (hT : OT T T') : RO n S' T' := by
  obtain ⟨s1, s2, s3, s4, s5, s6, s7, s8, s9, s10⟩ := hS
  obtain ⟨t1, t2, t3, -, t4, t5, t6, t7⟩ := hT
  obtain ⟨⟨k1, a1, a2, a3, a4⟩, ⟨k2, b1, b2, b3, b4⟩, ⟨c1, c2⟩, d, ⟨k5, e1, e2, e3, e4⟩⟩ := h
  have hs' : ∀ c, 59 ≤ c → gI S' c = gI S c ∧ gN S' c = gN S c := fun c hc => ⟨(s10 c hc).1, (s10 c hc).2.2⟩
  refine ⟨⟨k1, a1, by rw [s1]; exact a2, by rw [t1]; exact a3, by rw [s2, t4]; exact a4⟩, ⟨k2, b1, by rw [s3]; exact b2, by rw [t2]; exact b3, by rw [s4, t5]; exact b4⟩, ⟨fun s hs => ?_, fun s s' hs1 hs2 h1 h2 h3 => ?_⟩, fun s hs => ?_, ⟨k5, e1, by rw [s8]; exact e2, by rw [t3]; exact e3, by rw [s9, t6 17 (by decide)]; exact e4⟩⟩
  · rw [s5, t6 11 (by decide), t6 12 (by decide), t7]
    rcases c1 s hs with h1 | ⟨h1, h2, so, k, h3, h4, h5, h6⟩
    · exact Or.inl h1
    · refine Or.inr ⟨h1, h2.of hs', so, k, h3.of h2 hs', h4, h5, fun j hj => ?_⟩
      rw [(s10 _ h2.1.1).2.2, (s10 _ h2.2.1.1).2.1]
      exact h6 j hj
  · rw [s5] at h1 h2 h3
    have q1 : SHok n S (gN S 4 s) := by
      rcases c1 s hs1 with g | g
      · exact absurd g.1 h1
      · exact g.2.1
    have q2 : SHok n S (gN S 4 s') := by
      rcases c1 s' hs2 with g | g
      · exact absurd g.1 h2
      · exact g.2.1
    rw [(s10 _ q1.1.1).2.2, (s10 _ q2.1.1).2.2] at h3
    exact c2 s s' hs1 hs2 h1 h2 h3
  · rw [s6, s7, t6 14 (by decide), t6 15 (by decide), t6 16 (by decide)]
    rcases d s hs with h1 | h1 | ⟨h1, h2, h3, h4, so, k, h5, h6, h7⟩
    · exact Or.inl h1
    · exact Or.inr (Or.inl h1)
    · exact Or.inr (Or.inr ⟨h1, h2, h3, h4.of hs', so, k, h5.of h4 hs', h6, h7⟩)
/-- the kept world stays -/
def KM (S S' : St) : Prop := gI S' 0 10 = gI S 0 10 ∧ gI S' 9 = gI S 9 ∧ gA S' 10 = gA S 10 ∧ gA S' 11 = gA S 11 ∧ gN S' 12 = gN S 12 ∧ ∀ j, j < 6 → gI S' (gN S 12 j) = gI S (gN S 12 j) ∧ gA S' (gN S 12 j + 1) = gA S (gN S 12 j + 1)
theorem KM.refl (S : St) : KM S S := ⟨rfl, rfl, rfl, rfl, rfl, fun _ _ => ⟨rfl, rfl⟩⟩
theorem RKept.of {S S' T T' : St} (h : RKept S T) (hS : KM S S') (hT : OT T T') : RKept S' T' := by
  obtain ⟨s1, s2, s3, s4, s5, s6⟩ := hS
  obtain ⟨-, -, -, t1, -, -, t2, -⟩ := hT
  obtain ⟨h1, h2⟩ := h
  unfold RKept
  rw [s1, t1, t2 18 (by decide), s2]
  refine ⟨h1, ?_⟩
  rcases h2 with h2 | ⟨h2, V, L, t, c, p, ⟨h3, h4, h5, h6, h7⟩, h8, h9⟩
  · exact Or.inl h2
  · refine Or.inr ⟨h2, V, L, t, c, p, ⟨by rw [s3]; exact h3, by rw [s4]; exact h4, by rw [s2]; exact h5, by rw [s2]; exact h6, fun j hj => ?_⟩, h8, h9⟩
    have hj6 : j < 6 := Nat.lt_of_lt_of_le hj h8.2.1
    show RC (gI S' (gN S' 12 j)) (gA S' (gN S' 12 j + 1)) (p j)
    rw [s5, (s6 j hj6).1, (s6 j hj6).2]
    exact h7 j hj
/-! a pane's cells are written -/
theorem OS.sP {S : St} {P : Nat} {i a : Nat → Int32} (hP : isPn P) : OS S (sP S P i a) := by
  obtain ⟨h1, h2, h3⟩ := hP
  exact ⟨by rw [gI_sPn (by omega)], gA_sPn (by omega), by rw [gI_sPn (by omega)], gA_sPn (by omega), rfl, gA_sPn (by omega), rfl, by rw [gI_sPn (by omega)], gA_sPn (by omega), fun c hc => ⟨gI_sPn (by omega), gA_sPn (by omega), rfl⟩⟩
theorem KM.sP {S : St} {P : Nat} {i a : Nat → Int32} (hP : isPn P) (hk : ∀ j, j < 6 → gN S 12 j ≠ P) : KM S (sP S P i a) := by
  obtain ⟨h1, h2, h3⟩ := hP
  exact ⟨by rw [gI_sPn (by omega)], gI_sPn (by omega), gA_sPn (by omega), gA_sPn (by omega), rfl, fun j hj => ⟨gI_sPn (hk j hj), gA_sPn (by have := hk j hj; omega)⟩⟩
theorem FC.sP {S : St} {P : Nat} {i a : Nat → Int32} {q : AP} (h : FC S) (hr : RC i a q) : FC (sP S P i a) := by
  intro P' hP'
  by_cases e : P' = P
  · subst e
    rw [gI_sP]
    obtain ⟨-, -, -, fc, hf, h1, -⟩ := hr
    exact ⟨fc, hf, h1⟩
  · rw [gI_sPn e]
    exact h P' hP'
theorem CW.setP {S : St} {w P : Nat} {i a : Nat → Int32} {V L : Nat → Nat} {t c : Nat} {p : Nat → AP} {q : Nat → AP} (h : CW S w V L t c p) (hw : isW w) (hP : isPn P) (hq : ∀ j, j < c → (gN S (w + 3) j = P ∧ RC i a (q j)) ∨ (gN S (w + 3) j ≠ P ∧ q j = p j)) : CW (sP S P i a) w V L t c q := by
  have g := hP.1
  obtain ⟨h1, h2, h3, h4, h5⟩ := h
  have hw' : w < 21 := by rcases hw with rfl | rfl | rfl <;> decide
  refine ⟨by rw [gA_sPn (by have := hP.2.2; rcases hw with rfl | rfl | rfl <;> omega)]; exact h1, by rw [gA_sPn (by have := hP.2.2; rcases hw with rfl | rfl | rfl <;> omega)]; exact h2, by rw [gI_sPn (by omega)]; exact h3, by rw [gI_sPn (by omega)]; exact h4, fun j hj => ?_⟩
  show RC (gI (sP S P i a) (gN S (w + 3) j)) (gA (sP S P i a) (gN S (w + 3) j + 1)) (q j)
  rcases hq j hj with ⟨e, hr⟩ | ⟨e, e2⟩
  · rw [e, gI_sP, gA_sP]
    exact hr
  · rw [gI_sPn e, gA_sPn (by omega), e2]
    exact h5 j hj
theorem isPn57' : isPn 57 := isPn57
/-- the trial pane is written -/
theorem Rel.trial {n : List Nat} {S T : St} {i a : Nat → Int32} {q : AP} (h : Rel n S T) (hr : RC i a q) : Rel n (sP S 57 i a) T := by
  obtain ⟨hI, hF, h0, ⟨V, L, t, c, p, h1, h2, h3, h4, h5, h6⟩, hK, hO⟩ := h
  refine ⟨hI, hF.sP hr, h0, ⟨V, L, t, c, p, h1.setP hI.w isPn57 (fun j hj => Or.inr ⟨(hI.2.1 _ _ hI.w (by have := h2.2.1; omega)).2, rfl⟩), h2, h3, h4, h5, ?_⟩, hK.of (KM.sP isPn57 fun j hj => (hI.2.1 9 j isW9 hj).2) (OT.refl T), hO.of (OS.sP isPn57) (OT.refl T)⟩
  rw [gN_sP, gI_sPn (by rcases hI.w with e | e | e <;> rw [e] <;> decide)]
  exact h6
theorem RS.eq {r r' : Nat → Int32} {b b' : Nat} {p : AP} (h : RS r b p) (hn : p.2.1 ≤ 16) (e : ∀ j, j < 19 → r' (b' + j) = r (b + j)) : RS r' b' p := by
  obtain ⟨h1, h2, h3, h4⟩ := h
  exact ⟨(e 0 (by decide)).trans h1, (e 1 (by decide)).trans h2, (e 2 (by decide)).trans h3, fun j hj => (e (3 + j) (by omega)).trans (h4 j hj)⟩
theorem RW.eq {r r' : Nat → Int32} {u u' t c : Nat} {p : Nat → AP} (h : RW r u t c p) (hp : VW t c p) (e : ∀ j, j < 116 → r' (u' + j) = r (u + j)) : RW r' u' t c p := by
  refine ⟨(e 0 (by decide)).trans h.1, (e 1 (by decide)).trans h.2.1, fun j hj => (h.2.2 j hj).eq (hp.2.2 j hj).2.2.1 fun i hi => ?_⟩
  have h1 := hp.2.1
  have := e (2 + 19 * j + i) (by omega)
  rw [← Nat.add_assoc, ← Nat.add_assoc, ← Nat.add_assoc, ← Nat.add_assoc] at this
  exact this
/-- the reference's own: what is lent and given back -/
theorem Rel.lent {n : List Nat} {S T T' : St} (h : Rel n S T) (hT : OT T T') (h0' : gI T' 0 3 = nI 0) (e1 : gA T' 1 = gA T 1) (e2 : gA T' 2 = gA T 2) (e4 : gI T' 0 4 = gI T 0 4) (er : ∀ j, j < 116 → gA T' 3 j = gA T 3 j) : Rel n S T' := by
  obtain ⟨hI, hF, h0, ⟨V, L, t, c, p, h1, h2, h3, h4, h5, h6⟩, hK, hO⟩ := h
  exact ⟨hI, hF, h0', ⟨V, L, t, c, p, h1, h2, by rw [e1]; exact h3, by rw [e2]; exact h4, h5.eq h2 (fun j hj => by rw [Nat.zero_add]; exact er j hj), by rw [e4]; exact h6⟩, hK.of (KM.refl S) hT, hO.of (OS.refl S) hT⟩
theorem OT.sU {T : St} {u : Nat} {r : Nat → Int32} : OT T (sU T u r) := ⟨gI_sUn (by decide), gI_sUn (by decide), gI_sUn (by decide), gI_sUn (by decide), gA_sUn (by decide), gA_sUn (by decide), fun c hc => gA_sUn (by omega), rfl⟩
theorem Rel.lentU {n : List Nat} {S T : St} {r : Nat → Int32} (h : Rel n S T) (er : ∀ j, j < 116 → r j = gA T 3 j) : Rel n S (sU T 0 r) := h.lent OT.sU gI_sU (gA_sUn (by decide)) (gA_sUn (by decide)) (gI_sUn (by decide)) (fun j hj => by rw [gA_sU]; exact er j hj)
/-! guards -/
def OutR (a : Int32) (lo N : Nat) : Prop := a.toInt < lo ∨ (N : Int) ≤ a.toInt
theorem rng (a : Int32) (lo N : Nat) (hN : N < 2 ^ 31) : OutR a lo N ∨ ∃ j, lo ≤ j ∧ j < N ∧ a = nI j := by
  rcases pk_ix a hN with h | h | ⟨j, hj, rfl⟩
  · rw [Int32.lt_iff_toInt_lt] at h
    exact Or.inl (Or.inl (by have : (0 : Int32).toInt = 0 := rfl; omega))
  · rw [Int32.le_iff_toInt_le, nI_toInt hN] at h
    exact Or.inl (Or.inr h)
  · by_cases hl : lo ≤ j
    · exact Or.inr ⟨j, hl, hj, rfl⟩
    · exact Or.inl (Or.inl (by rw [nI_toInt (by omega)]; omega))
section GUARDS
variable {a x y : Int32} {lo N M j : Nat} {P P1 : Prop}
theorem g1_b (h : OutR a lo N) (p : P) (hx : x = nI lo := by rfl) (hy : y = nI N := by rfl) (hl : lo < 2 ^ 31 := by omega) (hN : N < 2 ^ 31 := by omega) : (a < x → P) ∧ (¬ a < x → (y ≤ a → P) ∧ (¬ y ≤ a → P1)) := by
  subst hx hy
  rw [Int32.lt_iff_toInt_lt, Int32.le_iff_toInt_le, nI_toInt hl, nI_toInt hN]
  unfold OutR at h
  exact ⟨fun _ => p, fun _ => ⟨fun _ => p, fun _ => by omega⟩⟩
theorem g2_b (h : OutR a lo (M + 1)) (p : P) (hx : x = nI lo := by rfl) (hy : y = nI M := by rfl) (hl : lo < 2 ^ 31 := by omega) (hN : M < 2 ^ 31 := by omega) : (a < x → P) ∧ (¬ a < x → (a ≤ y → P1) ∧ (¬ a ≤ y → P)) := by
  subst hx hy
  rw [Int32.lt_iff_toInt_lt, Int32.le_iff_toInt_le, nI_toInt hl, nI_toInt hN]
  unfold OutR at h
  exact ⟨fun _ => p, fun _ => ⟨fun _ => by omega, fun _ => p⟩⟩
theorem g3_b (h : OutR a lo (M + 1)) (p : P) (hx : x = nI lo := by rfl) (hy : y = nI M := by rfl) (hl : lo < 2 ^ 31 := by omega) (hN : M < 2 ^ 31 := by omega) : (a < x → P) ∧ (¬ a < x → (y < a → P) ∧ (¬ y < a → P1)) := by
  subst hx hy
  rw [Int32.lt_iff_toInt_lt, Int32.lt_iff_toInt_lt, nI_toInt hl, nI_toInt hN]
  unfold OutR at h
  exact ⟨fun _ => p, fun _ => ⟨fun _ => p, fun _ => by omega⟩⟩
theorem g1_t (h0 : lo ≤ j) (h : j < N) (p : P1) (hx : x = nI lo := by rfl) (hy : y = nI N := by rfl) (hN : N < 2 ^ 31 := by omega) : (nI j < x → P) ∧ (¬ nI j < x → (y ≤ nI j → P) ∧ (¬ y ≤ nI j → P1)) := by
  subst hx hy
  exact br_f (nI_nlt h0 (by omega)) (br_f (nI_ge h hN) p)
theorem g2_t (h0 : lo ≤ j) (h : j < M + 1) (p : P1) (hx : x = nI lo := by rfl) (hy : y = nI M := by rfl) (hN : M < 2 ^ 31 := by omega) : (nI j < x → P) ∧ (¬ nI j < x → (nI j ≤ y → P1) ∧ (¬ nI j ≤ y → P)) := by
  subst hx hy
  exact br_f (nI_nlt h0 (by omega)) (br_t (nI_le (by omega) hN) p)
theorem g3_t (h0 : lo ≤ j) (h : j < M + 1) (p : P1) (hx : x = nI lo := by rfl) (hy : y = nI M := by rfl) (hN : M < 2 ^ 31 := by omega) : (nI j < x → P) ∧ (¬ nI j < x → (y < nI j → P) ∧ (¬ y < nI j → P1)) := by
  subst hx hy
  exact br_f (nI_nlt h0 (by omega)) (br_f (nI_nlt (by omega) hN) p)
end GUARDS
section GUARDS2
variable {a : Int32} {j c : Nat} {S T : St} {Q : Int32 → St → Prop}
theorem c_place_b (h : OutR a 0 4) (q : Q 0 S) : wp_X11_isPlace a S Q := g1_b h q
theorem c_place_t (h : j < 4) (q : Q 1 S) : wp_X11_isPlace (nI j) S Q := g1_t (Nat.zero_le _) h q
theorem c_day_b (h : OutR a 0 50) (q : Q 0 S) : wp_X11_isDay a S Q := g1_b h q
theorem c_day_t (h : j < 50) (q : Q 1 S) : wp_X11_isDay (nI j) S Q := g1_t (Nat.zero_le _) h q
theorem c_looker_b (h : OutR a 0 3) (q : Q 0 S) : wp_X11_isLooker a S Q := g1_b h q
theorem c_looker_t (h : j < 3) (q : Q 1 S) : wp_X11_isLooker (nI j) S Q := g1_t (Nat.zero_le _) h q
theorem c_kind_b (h : OutR a 0 6) (q : Q 0 S) : wp_X11_isKind a S Q := g1_b h q
theorem c_kind_t (h : j < 6) (q : Q 1 S) : wp_X11_isKind (nI j) S Q := g1_t (Nat.zero_le _) h q
theorem c_sheet_b (h : OutR a 0 4) (q : Q 0 S) : wp_X11_isSheet a S Q := g1_b h q
theorem c_sheet_t (h : j < 4) (q : Q 1 S) : wp_X11_isSheet (nI j) S Q := g1_t (Nat.zero_le _) h q
theorem c_sort_b (h : OutR a 0 4) (q : Q 0 S) : wp_X11_isSort a S Q := g1_b h q
theorem c_sort_t (h : j < 4) (q : Q 1 S) : wp_X11_isSort (nI j) S Q := g1_t (Nat.zero_le _) h q
theorem c_shelf_b (h : OutR a 0 4) (q : Q 0 S) : wp_X11_isShelf a S Q := g1_b h q
theorem c_shelf_t (h : j < 4) (q : Q 1 S) : wp_X11_isShelf (nI j) S Q := g1_t (Nat.zero_le _) h q
theorem c_long_b (h : OutR a 1 21) (q : Q 0 S) : wp_X11_isTrialLength a S Q := g3_b (M := 20) h q
theorem c_long_t (h0 : 1 ≤ j) (h : j < 21) (q : Q 1 S) : wp_X11_isTrialLength (nI j) S Q := g3_t (M := 20) h0 h q
theorem c_pane_b (hw : isW (gN S 0 8)) (hc : gI S (gN S 0 8) 3 = nI c) (hc6 : c ≤ 6) (h : OutR a 0 c) (q : Q 0 S) : wp_X11_isPane a S Q := by
  have hh := g1_b (P := Q 0 S) (P1 := Q 1 S) (x := 0) (y := nI c) h q
  unfold wp_X11_isPane
  exact ⟨hh.1, fun hn => nm_e ⟨hw, by rw [hc]; exact hh.2 hn⟩⟩
theorem c_pane_t (hw : isW (gN S 0 8)) (hc : gI S (gN S 0 8) 3 = nI c) (hc6 : c ≤ 6) (h : j < c) (q : Q 1 S) : wp_X11_isPane (nI j) S Q := by
  have hh := g1_t (P := Q 0 S) (P1 := Q 1 S) (x := 0) (y := nI c) (Nat.zero_le _) h q
  unfold wp_X11_isPane
  exact ⟨hh.1, fun hn => nm_e ⟨hw, by rw [hc]; exact hh.2 hn⟩⟩
theorem r_in_b {lo M : Nat} {x y : Int32} (h : OutR a lo (M + 1)) (q : Q 0 T) (hx : x = nI lo := by rfl) (hy : y = nI M := by rfl) (hl : lo < 2 ^ 31 := by omega) (hN : M < 2 ^ 31 := by omega) : wp_X12_in a x y T Q := g3_b h q hx hy hl hN
theorem r_in_t {lo M : Nat} {x y : Int32} (h0 : lo ≤ j) (h : j < M + 1) (q : Q 1 T) (hx : x = nI lo := by rfl) (hy : y = nI M := by rfl) (hN : M < 2 ^ 31 := by omega) : wp_X12_in (nI j) x y T Q := g3_t h0 h q hx hy hN
theorem r_place_b (h : OutR a 0 4) (q : Q 0 T) : wp_X12_isPlace a T Q := r_in_b (M := 3) h ⟨isB_0, q⟩
theorem r_place_t (h : j < 4) (q : Q 1 T) : wp_X12_isPlace (nI j) T Q := r_in_t (M := 3) (Nat.zero_le _) h ⟨isB_1, q⟩
theorem r_day_b (h : OutR a 0 50) (q : Q 0 T) : wp_X12_isDay a T Q := r_in_b (M := 49) h ⟨isB_0, q⟩
theorem r_day_t (h : j < 50) (q : Q 1 T) : wp_X12_isDay (nI j) T Q := r_in_t (M := 49) (Nat.zero_le _) h ⟨isB_1, q⟩
theorem r_looker_b (h : OutR a 0 3) (q : Q 0 T) : wp_X12_isLooker a T Q := r_in_b (M := 2) h ⟨isB_0, q⟩
theorem r_looker_t (h : j < 3) (q : Q 1 T) : wp_X12_isLooker (nI j) T Q := r_in_t (M := 2) (Nat.zero_le _) h ⟨isB_1, q⟩
theorem r_shelf_b (h : OutR a 0 4) (q : Q 0 T) : wp_X12_isShelf a T Q := r_in_b (M := 3) h ⟨isB_0, q⟩
theorem r_shelf_t (h : j < 4) (q : Q 1 T) : wp_X12_isShelf (nI j) T Q := r_in_t (M := 3) (Nat.zero_le _) h ⟨isB_1, q⟩
theorem r_long_b (h : OutR a 1 21) (q : Q 0 T) : wp_X12_isLong a T Q := r_in_b (M := 20) h ⟨isB_0, q⟩
theorem r_long_t (h0 : 1 ≤ j) (h : j < 21) (q : Q 1 T) : wp_X12_isLong (nI j) T Q := r_in_t (M := 20) h0 h ⟨isB_1, q⟩
theorem e_1 : (1 : Int32).toNatClampNeg = 1 := nI_clamp (n := 1) (by decide)
theorem e_0 : (0 : Int32).toNatClampNeg = 0 := nI_clamp (n := 0) (by decide)
theorem i_1 {N : Nat} (h : 1 < N) (hN : N < 2 ^ 31) : vp_in (1 : Int32) N := vp_in_nI (n := 1) h hN
theorem i_0 {N : Nat} (h : 0 < N) (hN : N < 2 ^ 31) : vp_in (0 : Int32) N := vp_in_nI (n := 0) h hN
/-- in(v, 0, many - 1), also of none -/
theorem r_inM_b {y : Int32} (hy : y = nI c - 1) (hc6 : c ≤ 1000) (h : OutR a 0 c) (q : Q 0 T) : wp_X12_in a (0 : Int32) y T Q := by
  have e : (nI c - nI 1).toInt = (c : Int) - 1 := pk_sub_toInt (by omega) (by omega)
  subst hy
  unfold wp_X12_in
  refine ⟨fun _ => q, fun h1 => ⟨fun _ => q, fun h2 => ?_⟩⟩
  rw [Int32.lt_iff_toInt_lt] at h1 h2
  have e0 : (0 : Int32).toInt = 0 := rfl
  have e' : (nI c - 1).toInt = (c : Int) - 1 := e
  unfold OutR at h
  omega
theorem r_inM_t {y : Int32} (hy : y = nI c - 1) (hc6 : c ≤ 1000) (h : j < c) (q : Q 1 T) : wp_X12_in (nI j) (0 : Int32) y T Q := by
  have e : nI c - 1 = nI (c - 1) := pk_sub (b := 1) (by omega)
  rw [e] at hy
  exact r_in_t (M := c - 1) (Nat.zero_le _) (by omega) q rfl hy
theorem r_pane_b (h1 : gA T 3 1 = nI c) (hc6 : c ≤ 6) (h : OutR a 0 c) (q : Q 0 T) : wp_X12_isPane a T Q := by
  unfold wp_X12_isPane
  rw [e_1, h1]
  exact ⟨i_1 (by decide) (by decide), r_inM_b rfl (by omega) h ⟨isB_0, q⟩⟩
theorem r_pane_t (h1 : gA T 3 1 = nI c) (hc6 : c ≤ 6) (h : j < c) (q : Q 1 T) : wp_X12_isPane (nI j) T Q := by
  unfold wp_X12_isPane
  rw [e_1, h1]
  exact ⟨i_1 (by decide) (by decide), r_inM_t rfl (by omega) h ⟨isB_1, q⟩⟩
end GUARDS2
