/-! THE RELATION'S SIDES, one by one; rows, judge, trace, many -/
/-- what calls make stays -/
def DY (n n' : List Nat) (S S' : St) : Prop := (∀ c, c ∈ n → c ∈ n') ∧ ∀ c, 59 ≤ c → c ∈ n → gI S' c = gI S c ∧ gA S' c = gA S c ∧ gN S' c = gN S c
theorem DY.same {n : List Nat} {S S' : St} (h : ∀ c, 59 ≤ c → gI S' c = gI S c ∧ gA S' c = gA S c ∧ gN S' c = gN S c) : DY n n S S' := ⟨fun _ h => h, fun c hc _ => h c hc⟩
theorem SHok.dy {n n' : List Nat} {S S' : St} {o : Nat} (h : SHok n S o) (hd : DY n n' S S') : SHok n' S' o := by
  obtain ⟨⟨h1, h2, h3⟩, ⟨h4, h5, h6⟩, h7⟩ := h
  have e1 := (hd.2 o h1 h2).2.2
  have e2 := (hd.2 _ h4 h5).2.2
  unfold SHok isSh isIt
  rw [e1, e2]
  exact ⟨⟨h1, hd.1 _ h2, h3⟩, ⟨h4, hd.1 _ h5, h6⟩, h7⟩
theorem SHas.dy {n n' : List Nat} {S S' : St} {o so k : Nat} (h : SHas S o so k) (ho : SHok n S o) (hd : DY n n' S S') : SHas S' o so k := by
  unfold SHas
  rw [(hd.2 o ho.1.1 ho.1.2.1).1, (hd.2 o ho.1.1 ho.1.2.1).2.2, (hd.2 _ ho.2.1.1 ho.2.1.2.1).2.2]
  exact h
theorem RSheets.ok {n : List Nat} {S T : St} (h : RSheets n S T) {s : Nat} (hs : s < 4) (h0 : ¬ gN S 4 s = 0) : SHok n S (gN S 4 s) := by
  rcases h.1 s hs with g | g
  · exact absurd g.1 h0
  · exact g.2.1
theorem RSheets.dy {n n' : List Nat} {S S' T T' : St} (h : RSheets n S T) (a : gN S' 4 = gN S 4) (hd : DY n n' S S') (c1 : gA T' 11 = gA T 11) (c2 : gA T' 12 = gA T 12) (d : gL T' 13 = gL T 13) : RSheets n' S' T' := by
  unfold RSheets
  rw [a, c1, c2, d]
  refine ⟨fun s hs => ?_, fun s s' hs1 hs2 h1 h2 h3 => ?_⟩
  · rcases h.1 s hs with h1 | ⟨h1, h2, so, k, h3, h4, h5, h6⟩
    · exact Or.inl h1
    · refine Or.inr ⟨h1, h2.dy hd, so, k, h3.dy h2 hd, h4, h5, fun j hj => ?_⟩
      rw [(hd.2 _ h2.1.1 h2.1.2.1).2.2, (hd.2 _ h2.2.1.1 h2.2.1.2.1).2.1]
      exact h6 j hj
  · have q1 := h.ok hs1 h1
    have q2 := h.ok hs2 h2
    rw [(hd.2 _ q1.1.1 q1.1.2.1).2.2, (hd.2 _ q2.1.1 q2.1.2.1).2.2] at h3
    exact h.2 s s' hs1 hs2 h1 h2 h3
theorem RShelves.dy {n n' : List Nat} {S S' T T' : St} (h : RShelves n S T) (a : gA S' 5 = gA S 5) (b : gN S' 6 = gN S 6) (hd : DY n n' S S') (c1 : gA T' 14 = gA T 14) (c2 : gA T' 15 = gA T 15) (c3 : gA T' 16 = gA T 16) : RShelves n' S' T' := by
  unfold RShelves
  rw [a, b, c1, c2, c3]
  intro s hs
  rcases h s hs with h1 | h1 | ⟨h1, h2, h3, h4, so, k, h5, h6, h7⟩
  · exact Or.inl h1
  · exact Or.inr (Or.inl h1)
  · exact Or.inr (Or.inr ⟨h1, h2, h3, h4.dy hd, so, k, h5.dy h4 hd, h6, h7⟩)
theorem RTape.of2 {S S' T T' : St} (h : RTape S T) (a : gI S' 1 1 = gI S 1 1) (b : gA S' 2 = gA S 2) (c : gI T' 0 6 = gI T 0 6) (d : gA T' 4 = gA T 4) : RTape S' T' := by
  unfold RTape
  rw [a, b, c, d]
  exact h
theorem RRows.of2 {S S' T T' : St} (h : RRows S T) (a : gI S' 0 11 = gI S 0 11) (b : gA S' 3 = gA S 3) (c : gI T' 0 21 = gI T 0 21) (d : gA T' 9 = gA T 9) : RRows S' T' := by
  unfold RRows
  rw [a, b, c, d]
  exact h
theorem RTrace.of2 {S S' T T' : St} (h : RTrace S T) (a : gI S' 7 1 = gI S 7 1) (b : gA S' 8 = gA S 8) (c : gI T' 0 33 = gI T 0 33) (d : gA T' 17 = gA T 17) : RTrace S' T' := by
  unfold RTrace
  rw [a, b, c, d]
  exact h
/-- the class's worlds and panes stay -/
def SJ (S S' : St) : Prop := (∀ c, 9 ≤ c → c < 59 → gI S' c = gI S c ∧ gA S' c = gA S c) ∧ (∀ c, 9 ≤ c → c < 21 → gN S' c = gN S c) ∧ gN S' 0 = gN S 0
theorem SJ.refl (S : St) : SJ S S := ⟨fun _ _ _ => ⟨rfl, rfl⟩, fun _ _ _ => rfl, rfl⟩
theorem SJ.trans {S S' S'' : St} (h : SJ S S') (h' : SJ S' S'') : SJ S S'' := ⟨fun c h1 h2 => ⟨(h'.1 c h1 h2).1.trans (h.1 c h1 h2).1, (h'.1 c h1 h2).2.trans (h.1 c h1 h2).2⟩, fun c h1 h2 => (h'.2.1 c h1 h2).trans (h.2.1 c h1 h2), h'.2.2.trans h.2.2⟩
theorem SJ_A {S : St} {c k : Nat} {v : Int32} (h : c < 9 ∨ 59 ≤ c) : SJ S (sA S c k v) := ⟨fun d h1 h2 => ⟨rfl, gA_sAn (by omega)⟩, fun _ _ _ => rfl, rfl⟩
theorem SJ_I {S : St} {c k : Nat} {v : Int32} (h : c < 9 ∨ 59 ≤ c) : SJ S (sI S c k v) := ⟨fun d h1 h2 => ⟨gI_sIn (by omega), rfl⟩, fun _ _ _ => rfl, rfl⟩
theorem SJ_N {S : St} {c k v : Nat} (h0 : 0 < c) (h : c < 9 ∨ 59 ≤ c) : SJ S (sN S c k v) := ⟨fun d h1 h2 => ⟨rfl, rfl⟩, fun d h1 h2 => gN_sNn (by omega), gN_sNn (by omega)⟩
theorem SJ_R {S : St} {c : Nat} {f : Nat → Int32} (h : c < 9 ∨ 59 ≤ c) : SJ S (sR S c f) := ⟨fun d h1 h2 => ⟨rfl, gA_sRn (by omega)⟩, fun _ _ _ => rfl, rfl⟩
theorem isW.lt {w : Nat} (h : isW w) : 9 ≤ w ∧ w + 3 < 21 := by
  rcases h with rfl | rfl | rfl <;> decide
theorem CW.si {S S' : St} {w : Nat} {V L : Nat → Nat} {t c : Nat} {p : Nat → AP} (h : CW S w V L t c p) (hw : isW w) (hI : IC S) (hc : c ≤ 6) (hs : SJ S S') : CW S' w V L t c p := by
  obtain ⟨h1, h2, h3, h4, h5⟩ := h
  have g := hw.lt
  refine ⟨by rw [(hs.1 (w + 1) (by omega) (by omega)).2]; exact h1, by rw [(hs.1 (w + 2) (by omega) (by omega)).2]; exact h2, by rw [(hs.1 w (by omega) (by omega)).1]; exact h3, by rw [(hs.1 w (by omega) (by omega)).1]; exact h4, fun j hj => ?_⟩
  have g2 := (hI.2.1 w j hw (by omega)).1
  have g3 := g2.1
  have g4 := g2.2
  rw [hs.2.1 (w + 3) (by omega) (by omega), (hs.1 (gN S (w + 3) j) (by omega) (by omega)).1, (hs.1 (gN S (w + 3) j + 1) (by omega) (by omega)).2]
  exact h5 j hj
theorem IC.si {S S' : St} (h : IC S) (hs : SJ S S') : IC S' := by
  unfold IC
  rw [hs.2.2]
  refine ⟨h.1, fun w p hw hp => ?_, fun w p w' p' hw hw' hp hp' e => ?_⟩
  · have g := hw.lt
    rw [hs.2.1 (w + 3) (by omega) (by omega)]
    exact h.2.1 w p hw hp
  · have g := hw.lt
    have g' := hw'.lt
    rw [hs.2.1 (w + 3) (by omega) (by omega), hs.2.1 (w' + 3) (by omega) (by omega)] at e
    exact h.2.2 w p w' p' hw hw' hp hp' e
theorem FC.si {S S' : St} (h : FC S) (hs : SJ S S') : FC S' := fun P hP => by
  have g := hP.1
  have g' := hP.2.1
  rw [(hs.1 P (by omega) (by omega)).1]
  exact h P hP
/-- the reference's world stays -/
def TS (T T' : St) : Prop := gI T' 0 3 = gI T 0 3 ∧ gI T' 0 4 = gI T 0 4 ∧ gA T' 1 = gA T 1 ∧ gA T' 2 = gA T 2 ∧ gA T' 3 = gA T 3
theorem TS.refl (T : St) : TS T T := ⟨rfl, rfl, rfl, rfl, rfl⟩
theorem TS.trans {T T' T'' : St} (h : TS T T') (h' : TS T' T'') : TS T T'' := by
  obtain ⟨a1, a2, a3, a4, a5⟩ := h
  obtain ⟨b1, b2, b3, b4, b5⟩ := h'
  exact ⟨b1.trans a1, b2.trans a2, b3.trans a3, b4.trans a4, b5.trans a5⟩
theorem TS_A {T : St} {c k : Nat} {v : Int32} (h : 4 ≤ c) : TS T (sA T c k v) := ⟨rfl, rfl, gA_sAn (by omega), gA_sAn (by omega), gA_sAn (by omega)⟩
theorem TS_I {T : St} {k : Nat} {v : Int32} (h : k ≠ 3 ∧ k ≠ 4) : TS T (sI T 0 k v) := ⟨gI_sIk (Ne.symm h.1), gI_sIk (Ne.symm h.2), rfl, rfl, rfl⟩
theorem TS_L {T : St} {c k : Nat} {v : Int64} : TS T (sL T c k v) := ⟨rfl, rfl, rfl, rfl, rfl⟩
theorem Cur.si {S S' T T' : St} {V L : Nat → Nat} {t c : Nat} {p : Nat → AP} (h : Cur S T V L t c p) (hI : IC S) (hs : SJ S S') (ht : TS T T') : Cur S' T' V L t c p := by
  obtain ⟨h1, h2, h3, h4, h5, h6⟩ := h
  obtain ⟨t1, t2, t3, t4, t5⟩ := ht
  have g := hI.w.lt
  have e : gN S' 0 8 = gN S 0 8 := by rw [hs.2.2]
  unfold Cur
  rw [e, t2, t3, t4, t5, (hs.1 (gN S 0 8) (by omega) (by omega)).1]
  exact ⟨h1.si hI.w hI h2.2.1 hs, h2, h3, h4, h5, h6⟩
theorem Rel.side {n n' : List Nat} {S S' T T' : St} (h : Rel n S T) (hs : SJ S S') (ht : TS T T') (h10 : gI S' 0 10 = gI S 0 10) (h35 : gI T' 0 35 = gI T 0 35) (h18 : gA T' 18 = gA T 18) (ho : RO n' S' T') : Rel n' S' T' := by
  obtain ⟨hI, hF, h0, ⟨V, L, t, c, p, hC⟩, hK, -⟩ := h
  refine ⟨hI.si hs, hF.si hs, ht.1.trans h0, ⟨V, L, t, c, p, hC.si hI hs ht⟩, ?_, ho⟩
  unfold RKept
  rw [h10, h35, h18, (hs.1 9 (by decide) (by decide)).1]
  refine ⟨hK.1, ?_⟩
  rcases hK.2 with h | ⟨h, V, L, t, c, p, k1, k2, k3⟩
  · exact Or.inl h
  · exact Or.inr ⟨h, V, L, t, c, p, k1.si isW9 hI k2.2.1 hs, k2, k3⟩
/-! rows -/
theorem e_rs {a b : Nat} : nI a * (3 : Int32) + nI b = nI (3 * a + b) := by
  show nI a * nI 3 + nI b = _
  rw [pk_mul, nI_add, Nat.mul_comm]
theorem e_rs2 {a b : Nat} : (3 : Int32) * nI a + nI b = nI (3 * a + b) := by
  show nI 3 * nI a + nI b = _
  rw [pk_mul, nI_add]
theorem c_rs {a b : Nat} {x y : Int32} {S : St} {Q : Int32 → St → Prop} (hx : x = nI a) (hy : y = nI b) (q : Q (nI (3 * a + b)) S) : wp_X11_rowSlot x y S Q := by
  subst hx hy
  unfold wp_X11_rowSlot
  rw [e_rs]
  exact q
theorem g4_b {a x y : Int32} {lo N : Nat} {P P1 : Prop} (h : OutR a lo N) (p : P) (hx : x = nI lo := by rfl) (hy : y = nI N := by rfl) (hl : lo < 2 ^ 31 := by omega) (hN : N < 2 ^ 31 := by omega) : (a < x → P) ∧ (¬ a < x → (a < y → P1) ∧ (¬ a < y → P)) := by
  subst hx hy
  rw [Int32.lt_iff_toInt_lt, Int32.lt_iff_toInt_lt, nI_toInt hl, nI_toInt hN]
  unfold OutR at h
  exact ⟨fun _ => p, fun _ => ⟨fun _ => by omega, fun _ => p⟩⟩
theorem c_rp_b {a b : Int32} {k : Nat} {S : St} {Q : Int32 → St → Prop} (hk : gI S 0 11 = nI k) (hk2 : k ≤ 20) (h : OutR a 0 k ∨ OutR b 0 3) (q : Q 0 S) : wp_X11_isRowPart a b S Q := by
  unfold wp_X11_isRowPart
  rw [hk]
  rcases h with h | h
  · exact g1_b h q
  · have hh := g1_b (P := Q 0 S) (P1 := Q 1 S) (x := 0) (y := 3) (lo := 0) (N := 3) h q
    exact ⟨fun _ => q, fun _ => ⟨fun _ => q, fun _ => hh⟩⟩
theorem c_rp_t {i w k : Nat} {S : St} {Q : Int32 → St → Prop} (hk : gI S 0 11 = nI k) (hk2 : k ≤ 20) (h : i < k) (h2 : w < 3) (q : Q 1 S) : wp_X11_isRowPart (nI i) (nI w) S Q := by
  unfold wp_X11_isRowPart
  rw [hk]
  exact g1_t (Nat.zero_le _) h (g1_t (N := 3) (Nat.zero_le _) h2 q)
theorem r_rp_b {a b : Int32} {k : Nat} {T : St} {Q : Int32 → St → Prop} (hk : gI T 0 21 = nI k) (hk2 : k ≤ 20) (h : OutR a 0 k ∨ OutR b 0 3) (q : Q 0 T) : wp_X12_isRow a b T Q := by
  unfold wp_X12_isRow
  rw [hk]
  rcases rng a 0 k (by omega) with ha | ⟨j, g, hj, rfl⟩
  · exact r_inM_b rfl (by omega) ha (d_0 q)
  · rcases h with h | h
    · unfold OutR at h
      rw [nI_toInt (by omega)] at h
      omega
    · exact r_inM_t rfl (by omega) hj (d_1 (r_in_b (M := 2) h (d_0 q)))
theorem r_rp_t {i w k : Nat} {T : St} {Q : Int32 → St → Prop} (hk : gI T 0 21 = nI k) (hk2 : k ≤ 20) (h : i < k) (h2 : w < 3) (q : Q 1 T) : wp_X12_isRow (nI i) (nI w) T Q := by
  unfold wp_X12_isRow
  rw [hk]
  exact r_inM_t rfl (by omega) h (d_1 (r_in_t (M := 2) (Nat.zero_le _) h2 (d_1 q)))
theorem Rel.alter {n : List Nat} {S T : St} {k : Nat} {v : Int32} (h : Rel n S T) : Rel n (sA S 3 k v) (sA T 9 k v) := by
  obtain ⟨o1, o2, o3, o4, o5⟩ := h.2.2.2.2.2
  have hd : DY n n S (sA S 3 k v) := DY.same fun c hc => ⟨rfl, gA_sAn (by omega), rfl⟩
  refine h.side (SJ_A (by decide)) (TS_A (by decide)) rfl rfl (gA_sAn (by decide)) ⟨o1.of2 rfl (gA_sAn (by decide)) rfl (gA_sAn (by decide)), ?_, o3.dy rfl hd (gA_sAn (by decide)) (gA_sAn (by decide)) rfl, o4.dy (gA_sAn (by decide)) rfl hd (gA_sAn (by decide)) (gA_sAn (by decide)) (gA_sAn (by decide)), o5.of2 rfl (gA_sAn (by decide)) rfl (gA_sAn (by decide))⟩
  obtain ⟨m, m1, m2, m3, m4⟩ := o2
  refine ⟨m, m1, m2, m3, fun j hj => ?_⟩
  rw [gA_sA, gA_sA]
  by_cases e : j = k
  · subst e
    rw [u1_s, u1_s]
  · rw [u1_n e, u1_n e]
    exact m4 j hj
theorem st_row : step_row Rel := by
  intro n S T a1 a2 hn h
  have hw := h.1.w
  have h0 := h.2.2.1
  obtain ⟨V, L, t, c, p, hC⟩ := h.2.2.2.1
  have hc3 : gI S (gN S 0 8) 3 = nI c := hC.1.2.2.1
  have ht4 : gI S (gN S 0 8) 4 = nI t := hC.1.2.2.2.1
  have hc6 : c ≤ 6 := hC.2.1.2.1
  have ht5 : t ≤ 50 := hC.2.1.1
  have hr1 : gA T 3 1 = nI c := hC.2.2.2.2.1.2.1
  have hr0 : gA T 3 0 = nI t := hC.2.2.2.2.1.1
  unfold wp_X11_row
  obtain ⟨k, hk, hk1, hk2, hk3⟩ := h.2.2.2.2.2.2.1
  rcases rng a1 0 k (by omega) with b | ⟨j1, g1, h1, rfl⟩
  · exact c_rp_b hk1 hk (Or.inl b) (d_0 (by unfold wp_X12_row; exact r_rp_b hk2 hk (Or.inl b) (d_0 ⟨rfl, h⟩)))
  rcases rng a2 0 3 (by omega) with b | ⟨j2, g2, h2, rfl⟩
  · exact c_rp_b hk1 hk (Or.inr b) (d_0 (by unfold wp_X12_row; exact r_rp_b hk2 hk (Or.inr b) (d_0 ⟨rfl, h⟩)))
  refine c_rp_t hk1 hk h1 h2 (d_1 ?_)
  refine c_rs rfl rfl ?_
  rw [nI_clamp (by omega)]
  refine ⟨vp_in_nI (by omega) (by decide), ?_⟩
  unfold wp_X12_row
  refine r_rp_t hk2 hk h1 h2 (d_1 ?_)
  rw [e_rs2, nI_clamp (by omega)]
  exact ⟨vp_in_nI (by omega) (by decide), hk3 _ (by omega), h⟩
theorem st_alterRow : step_alterRow Rel := by
  intro n S T a1 a2 a3 hn h
  have hw := h.1.w
  have h0 := h.2.2.1
  obtain ⟨V, L, t, c, p, hC⟩ := h.2.2.2.1
  have hc3 : gI S (gN S 0 8) 3 = nI c := hC.1.2.2.1
  have ht4 : gI S (gN S 0 8) 4 = nI t := hC.1.2.2.2.1
  have hc6 : c ≤ 6 := hC.2.1.2.1
  have ht5 : t ≤ 50 := hC.2.1.1
  have hr1 : gA T 3 1 = nI c := hC.2.2.2.2.1.2.1
  have hr0 : gA T 3 0 = nI t := hC.2.2.2.2.1.1
  unfold wp_X11_alterRow
  obtain ⟨k, hk, hk1, hk2, hk3⟩ := h.2.2.2.2.2.2.1
  rcases rng a1 0 k (by omega) with b | ⟨j1, g1, h1, rfl⟩
  · exact c_rp_b hk1 hk (Or.inl b) (d_0 (by unfold wp_X12_alterRow; exact r_rp_b hk2 hk (Or.inl b) (d_0 ⟨rfl, h⟩)))
  rcases rng a2 0 3 (by omega) with b | ⟨j2, g2, h2, rfl⟩
  · exact c_rp_b hk1 hk (Or.inr b) (d_0 (by unfold wp_X12_alterRow; exact r_rp_b hk2 hk (Or.inr b) (d_0 ⟨rfl, h⟩)))
  refine c_rp_t hk1 hk h1 h2 (d_1 ?_)
  refine c_rs rfl rfl ?_
  rw [nI_clamp (by omega)]
  refine ⟨vp_in_nI (by omega) (by decide), nm_e ⟨vp_in_nI (by omega) (by decide), nm_e ?_⟩⟩
  unfold wp_X12_alterRow
  refine r_rp_t hk2 hk h1 h2 (d_1 ?_)
  rw [e_rs2, nI_clamp (by omega)]
  exact ⟨vp_in_nI (by omega) (by decide), nm_e ⟨vp_in_nI (by omega) (by decide), nm_e ⟨hk3 _ (by omega), h.alter⟩⟩⟩
/-! judge: the first row that isn't right -/
def JD (ok : Nat → Prop) (k r : Nat) : Prop := (r = 0 ∧ ∀ c, c < k → ok c) ∨ ∃ c, c < k ∧ r = c + 1 ∧ (∀ d, d < c → ok d) ∧ ¬ ok c
theorem JD.uniq {ok : Nat → Prop} {k r r' : Nat} (h : JD ok k r) (h' : JD ok k r') : r = r' := by
  rcases h with ⟨h1, h2⟩ | ⟨c, h1, h2, h3, h4⟩ <;> rcases h' with ⟨g1, g2⟩ | ⟨d, g1, g2, g3, g4⟩
  · omega
  · exact absurd (h2 d g1) g4
  · exact absurd (g2 c h1) h4
  · have : c = d := by
      rcases Nat.lt_trichotomy c d with e | e | e
      · exact absurd (g3 c e) h4
      · exact e
      · exact absurd (h3 d e) g4
    omega
theorem c_right_l {S : St} {V : Nat → Nat} {q : AP} {d i : Nat} {x y : Int32} {Q : Int32 → St → Prop} (hw : isW (gN S 0 8)) (hV : NR (gA S (gN S 0 8 + 1)) V 200 99) (hr : RC (gI S 57) (gA S 58) q) (hq : VPa q) (hx : x = nI i) (hy : y = nI d) (hi : i < 20) (k1 : (∀ w, w < 3 → gA S 3 (3 * i + w) = aPart V q d w) → Q 1 S) (k0 : ¬ (∀ w, w < 3 → gA S 3 (3 * i + w) = aPart V q d w) → Q 0 S) : ∀ (m w : Nat), w + m = 3 → (∀ w', w' < w → gA S 3 (3 * i + w') = aPart V q d w') → wl_X11_isRowRight_2 x y Q (fun _ S => Q 1 S) (m + 1) (nI w) S
  | 0, w, hwm, h => by
    rw [wl_X11_isRowRight_2]
    exact d_leT 3 w (by omega) (k1 fun w' hw' => h w' (by omega))
  | m + 1, w, hwm, h => by
    rw [wl_X11_isRowRight_2]
    refine d_leF 3 w (by omega) (c_rs hx rfl ?_)
    rw [nI_clamp (by omega)]
    refine ⟨vp_in_nI (by omega) (by decide), c_part (V := V) (q := q) (d := d) (w := w) hw hV hr hq hy rfl (by omega) ?_⟩
    by_cases e2 : gA S 3 (3 * i + w) = aPart V q d w
    · refine br_t e2 (nm_r (nI_1 w) (c_right_l hw hV hr hq hx hy hi k1 k0 m (w + 1) (by omega) fun w' hw' => ?_))
      by_cases e3 : w' = w
      · subst e3
        exact e2
      · exact h w' (by omega)
    · exact br_f e2 (k0 fun z => e2 (z w (by omega)))
theorem c_right {S : St} {V : Nat → Nat} {q : AP} {d i : Nat} {x y : Int32} {Q : Int32 → St → Prop} (hw : isW (gN S 0 8)) (hV : NR (gA S (gN S 0 8 + 1)) V 200 99) (hr : RC (gI S 57) (gA S 58) q) (hq : VPa q) (hx : x = nI i) (hy : y = nI d) (hi : i < 20) (k1 : (∀ w, w < 3 → gA S 3 (3 * i + w) = aPart V q d w) → Q 1 S) (k0 : ¬ (∀ w, w < 3 → gA S 3 (3 * i + w) = aPart V q d w) → Q 0 S) : wp_X11_isRowRight x y S Q := by
  unfold wp_X11_isRowRight
  exact ⟨3 + 1, c_right_l hw hV hr hq hx hy hi k1 k0 3 0 rfl (fun w hw => absurd hw (by omega))⟩
theorem c_judge_l {S : St} {V : Nat → Nat} {t k : Nat} {q : AP} {ok : Nat → Prop} {Q : Int32 → St → Prop} (h : WK S V t) (hq : VPa q) (hk : gI S 0 11 = nI k) (hk2 : k ≤ 20) (ht : t ≤ 50) (hok : ∀ c, c < k → (ok c ↔ t + c < 50 ∧ ∀ w, w < 3 → gA S 3 (3 * c + w) = aMust V t q (3 * c + w))) (kk : ∀ r i a q', JD ok k r → RC i a q' → Q (nI r) (sP S 57 i a)) : ∀ (m c : Nat) (i a : Nat → Int32), c + m = k → (∀ d, d < c → ok d) → c ≤ 50 - t → RC i a (aAt t q c) → wl_X11_judge_28 Q (fun _ S => Q 0 S) (m + 1) (nI c) (sP S 57 i a)
  | 0, c, i, a, hc, hd, hct, hr => by
    have e : gI (sP S 57 i a) 0 11 = nI k := by
      rw [gI_sPn (by decide)]
      exact hk
    rw [wl_X11_judge_28, e]
    exact d_leT k c (by omega) (kk 0 i a _ (Or.inl ⟨rfl, fun d hd' => hd d (by omega)⟩) hr)
  | m + 1, c, i, a, hc, hd, hct, hr => by
    have e : gI (sP S 57 i a) 0 11 = nI k := by
      rw [gI_sPn (by decide)]
      exact hk
    have hcc := h.1.c
    have et : gI (sP S 57 i a) (gN S 0 8) 4 = nI t := by
      rw [gI_sPn (by omega)]
      exact h.2.2
    rw [wl_X11_judge_28, e]
    refine d_leF k c (by omega) (nm_r (show gN (sP S 57 i a) 0 8 = gN S 0 8 from rfl) ⟨h.1.w, nm_r (e' := nI (t + c)) (by rw [et]; exact nI_add t c) ?_⟩)
    refine pk_le 50 (t + c) (fun g => ?_) (fun g => ?_)
    · rw [nI_1]
      exact kk (c + 1) i a _ (Or.inr ⟨c, by omega, rfl, hd, fun z => by have := ((hok c (by omega)).mp z).1; omega⟩) hr
    · have hqc := hq.at (d := t) c (by omega)
      have hV : NR (gA (sP S 57 i a) (gN (sP S 57 i a) 0 8 + 1)) V 200 99 := by
        show NR (gA (sP S 57 i a) (gN S 0 8 + 1)) V 200 99
        rw [gA_sPn (by omega)]
        exact h.2.1
      refine c_right (S := sP S 57 i a) (V := V) (q := aAt t q c) (d := t + c) (i := c) h.1.w hV (by rw [gI_sP, show gA (sP S 57 i a) 58 = a from gA_sP]; exact hr) hqc rfl rfl (by omega) (fun g1 => d_1 ?_) (fun g1 => d_0 ?_)
      · refine c_passDay (S := sP S 57 i a) isPn57 (p := aAt t q c) (by rw [gI_sP, gA_sP]; exact hr) hqc rfl (by omega) fun i2 a2 hr2 => nm_r (nI_1 c) ?_
        rw [sP_sP]
        refine c_judge_l h hq hk hk2 ht hok kk m (c + 1) i2 a2 (by omega) (fun d hd' => ?_) (by omega) hr2
        by_cases e3 : d = c
        · subst e3
          refine (hok d (by omega)).mpr ⟨by omega, fun w hw => ?_⟩
          rw [aMust_at hw]
          have := g1 w hw
          rw [gA_sPn (by decide)] at this
          exact this
        · exact hd d (by omega)
      · rw [nI_1]
        refine kk (c + 1) i a _ (Or.inr ⟨c, by omega, rfl, hd, fun z => g1 fun w hw => ?_⟩) hr
        have := ((hok c (by omega)).mp z).2 w hw
        rw [aMust_at hw] at this
        rw [gA_sPn (by decide)]
        exact this
theorem r_j3_0 {T : St} {x w : Int32} {K : Int32 → Int32 → St → Prop} (k : K 0 w T) (m : Nat) : wl_X12_judge_46 x K (m + 1) 0 w T := by
  rw [wl_X12_judge_46]
  exact ⟨fun _ => k, fun _ => ⟨fun _ => k, fun h => absurd rfl h⟩⟩
theorem r_j3_1 {T : St} {x : Int32} {c : Nat} {K : Int32 → Int32 → St → Prop} (hx : x = nI c) (hc : c < 20) (k1 : (∀ w, w < 3 → gA T 9 (3 * c + w) = gA T 10 (3 * c + w)) → ∀ y, K 1 y T) (k0 : ¬ (∀ w, w < 3 → gA T 9 (3 * c + w) = gA T 10 (3 * c + w)) → ∀ y, K 0 y T) : ∀ (m w : Nat), w + m = 3 → (∀ w', w' < w → gA T 9 (3 * c + w') = gA T 10 (3 * c + w')) → wl_X12_judge_46 x K (m + 1) 1 (nI w) T
  | 0, w, hw, h => by
    rw [wl_X12_judge_46]
    exact d_leT 3 w (by omega) (k1 (fun w' hw' => h w' (by omega)) _)
  | m + 1, w, hw, h => by
    rw [wl_X12_judge_46]
    have e : (3 : Int32) * x + nI w = nI (3 * c + w) := by
      rw [hx]
      exact e_rs2
    rw [e, nI_clamp (by omega)]
    refine d_leF 3 w (by omega) (d_1 ⟨vp_in_nI (by omega) (by decide), vp_in_nI (by omega) (by decide), ?_⟩)
    by_cases e2 : gA T 9 (3 * c + w) = gA T 10 (3 * c + w)
    · refine br_t e2 (nm_r (nI_1 w) (r_j3_1 hx hc k1 k0 m (w + 1) (by omega) fun w' hw' => ?_))
      by_cases e3 : w' = w
      · subst e3
        exact e2
      · exact h w' (by omega)
    · exact br_f e2 (nm_r (nI_1 w) (r_j3_0 (k0 (fun z => e2 (z w (by omega))) _) m))
theorem r_judge_l {T : St} {V : Nat → Nat} {t k : Nat} {q : AP} {ok : Nat → Prop} {Q : Int32 → St → Prop} (hk : gI T 0 21 = nI k) (hk2 : k ≤ 20) (hm : gI T 0 22 = nI (min k (50 - t))) (hmu : ∀ x, x < 3 * min k (50 - t) → gA T 10 x = aMust V t q x) (ht : t ≤ 50) (hok : ∀ c, c < k → (ok c ↔ t + c < 50 ∧ ∀ w, w < 3 → gA T 9 (3 * c + w) = aMust V t q (3 * c + w))) (kk : ∀ r, JD ok k r → Q (nI r) T) : ∀ (m c : Nat), c + m = k → (∀ d, d < c → ok d) → wl_X12_judge_21 Q (fun _ S => Q 0 S) (m + 1) (nI c) T
  | 0, c, hc, hd => by
    rw [wl_X12_judge_21, hk]
    exact d_leT k c (by omega) (kk 0 (Or.inl ⟨rfl, fun d hd' => hd d (by omega)⟩))
  | m + 1, c, hc, hd => by
    rw [wl_X12_judge_21, hk, hm]
    refine d_leF k c (by omega) (pk_le (min k (50 - t)) c (fun g => ?_) (fun g => ?_))
    · unfold wj_X12_judge_42
      refine ⟨0 + 1, r_j3_0 (d_0 ?_) 0⟩
      rw [nI_1]
      exact kk (c + 1) (Or.inr ⟨c, by omega, rfl, hd, fun z => by have := ((hok c (by omega)).mp z).1; omega⟩)
    · unfold wj_X12_judge_42
      refine ⟨3 + 1, r_j3_1 rfl (by omega) (fun g1 y => d_1 (nm_r (nI_1 c) ?_)) (fun g1 y => d_0 ?_) 3 0 rfl (fun w hw => absurd hw (by omega))⟩
      · refine r_judge_l hk hk2 hm hmu ht hok kk m (c + 1) (by omega) fun d hd' => ?_
        by_cases e3 : d = c
        · subst e3
          exact (hok d (by omega)).mpr ⟨by omega, fun w hw => by rw [g1 w hw]; exact hmu _ (by omega)⟩
        · exact hd d (by omega)
      · rw [nI_1]
        exact kk (c + 1) (Or.inr ⟨c, by omega, rfl, hd, fun z => g1 fun w hw => by rw [hmu _ (by omega)]; exact ((hok c (by omega)).mp z).2 w hw⟩)
theorem st_judge : step_judge Rel := by
  intro n S T a1 hn h
  have hw := h.1.w
  have h0 := h.2.2.1
  obtain ⟨V, L, t, c, p, hC⟩ := h.2.2.2.1
  have hc3 : gI S (gN S 0 8) 3 = nI c := hC.1.2.2.1
  have ht4 : gI S (gN S 0 8) 4 = nI t := hC.1.2.2.2.1
  have hc6 : c ≤ 6 := hC.2.1.2.1
  have ht5 : t ≤ 50 := hC.2.1.1
  have hr1 : gA T 3 1 = nI c := hC.2.2.2.2.1.2.1
  have hr0 : gA T 3 0 = nI t := hC.2.2.2.2.1.1
  unfold wp_X11_judge
  rcases rng a1 0 c (by omega) with b | ⟨j1, g1, h1, rfl⟩
  · exact c_pane_b hw hc3 hc6 b (d_0 ((by unfold wp_X12_judge; exact r_pane_b hr1 hc6 b (d_0 (⟨rfl, h⟩)))))
  have hP1 := (h.1.2.1 _ j1 hw (by omega)).1
  have hQ1 := (h.1.2.1 _ j1 hw (by omega)).2
  have hrc1 := hC.1.2.2.2.2 j1 h1
  have hv1 := hC.2.1.2.2 j1 h1
  have hat1 : At T 0 j1 (0 + 2 + 19 * j1) := ⟨h0, rfl, by omega⟩
  have hrs1 := hC.2.2.2.2.1.2.2 j1 h1
  obtain ⟨k, hk, hk1, hk2, hk3⟩ := h.2.2.2.2.2.2.1
  refine c_pane_t hw hc3 hc6 h1 (d_1 (?_))
  rw [nI_clamp (by omega)]
  refine nm_e ⟨hw, vp_in_nI (by omega) (by decide), nm_e ⟨hP1, c_copy isPn57 hP1 hQ1 hrc1 fun i a hr => ⟨k + 1, ?_⟩⟩⟩
  refine c_judge_l (V := V) (t := t) (q := p j1) (ok := fun c' => t + c' < 50 ∧ ∀ w, w < 3 → gA S 3 (3 * c' + w) = aMust V t (p j1) (3 * c' + w)) (hC.wk h.1) hv1 hk1 hk ht5 (fun c' hc' => Iff.rfl) (fun r i2 a2 q2 hJ hr2 => ?_) k 0 i a (by omega) (fun d hd => absurd hd (by omega)) (by omega) hr
  unfold wp_X12_judge
  refine r_pane_t hr1 hc6 h1 (d_1 (?_))
  rw [hk2]
  refine r_find (n := k) h0 rfl h1 rfl (by omega) hC.2.1 hC.2.2.1 hC.2.2.2.2.1 fun m r' hm hr' => ⟨k + 1, ?_⟩
  refine r_judge_l (V := V) (t := t) (q := p j1) (k := k) (ok := fun c' => t + c' < 50 ∧ ∀ w, w < 3 → gA S 3 (3 * c' + w) = aMust V t (p j1) (3 * c' + w)) ((gI_sUn (by decide)).trans ((gI_tMn (by decide)).trans hk2)) hk ((gI_sUn (by decide)).trans gI_tM) (fun x hx => ?_) ht5 (fun c' hc' => ?_) (fun r3 hJ3 => ⟨?_, ?_⟩) k 0 (by omega) (fun d hd => absurd hd (by omega))
  · rw [gA_sUn (by decide), gA_tM]
    exact hm x hx
  · rw [gA_sUn (by decide), gA_tMn (by decide)]
    refine ⟨fun z => ⟨z.1, fun w hw' => ?_⟩, fun z => ⟨z.1, fun w hw' => ?_⟩⟩
    · rw [← hk3 _ (by omega)]
      exact z.2 w hw'
    · rw [hk3 _ (by omega)]
      exact z.2 w hw'
  · rw [hJ.uniq hJ3]
  · exact (h.must hr').trial hr2
theorem st_trace : step_trace Rel := by
  intro n S T a1 hn h
  have hw := h.1.w
  have h0 := h.2.2.1
  obtain ⟨V, L, t, c, p, hC⟩ := h.2.2.2.1
  have hc3 : gI S (gN S 0 8) 3 = nI c := hC.1.2.2.1
  have ht4 : gI S (gN S 0 8) 4 = nI t := hC.1.2.2.2.1
  have hc6 : c ≤ 6 := hC.2.1.2.1
  have ht5 : t ≤ 50 := hC.2.1.1
  have hr1 : gA T 3 1 = nI c := hC.2.2.2.2.1.2.1
  have hr0 : gA T 3 0 = nI t := hC.2.2.2.2.1.1
  unfold wp_X11_trace
  obtain ⟨k, hk, hk1, hk2, hk3⟩ := h.2.2.2.2.2.2.2.2.2
  rw [hk1]
  rcases rng a1 0 k (by omega) with b | ⟨j1, g1, h1, rfl⟩
  · refine g4_b b ?_
    unfold wp_X12_trace
    rw [hk2]
    exact r_inM_b rfl (by omega) b (d_0 ⟨rfl, h⟩)
  · refine br_f (nI_pos (by omega)) (br_t (nI_lt h1 (by omega)) ⟨vp_in_nI (by omega) (by decide), ?_⟩)
    unfold wp_X12_trace
    rw [hk2, nI_clamp (by omega)]
    exact r_inM_t rfl (by omega) h1 (d_1 ⟨vp_in_nI (by omega) (by decide), hk3 _ h1, h⟩)
/-! many: how many glimpses aren't dark -/
def aLit (q : AP) : Nat → Nat
  | 0 => 0
  | m + 1 => aLit q m + (if q.2.2.2 m = 500 then 0 else 1)
def aLits (p : Nat → AP) : Nat → Nat
  | 0 => 0
  | m + 1 => aLits p m + aLit (p m) (p m).2.1
theorem aLit_d {q : AP} {m : Nat} (h : q.2.2.2 m = 500) : aLit q (m + 1) = aLit q m + 0 := by
  rw [aLit, if_pos h]
theorem aLit_l {q : AP} {m : Nat} (h : ¬ q.2.2.2 m = 500) : aLit q (m + 1) = aLit q m + 1 := by
  rw [aLit, if_neg h]
theorem c_lit_l {S : St} {w j P b : Nat} {x : Int32} {q : AP} {K : Int32 → Int32 → St → Prop} (hj : j < 6) (hx : x = nI j) (hP : isPn P) (e : gN S (w + 3) j = P) (hr : RC (gI S P) (gA S (P + 1)) q) (hq : VPa q) (k : ∀ y, K (nI (b + aLit q q.2.1)) y S) : ∀ (m c : Nat), c + m = q.2.1 → wl_X10_countLit_14 w x K (m + 1) (nI (b + aLit q c)) (nI c) S
  | 0, c, hc => by
    have hn := hq.2.2.1
    have e2 : c = q.2.1 := by omega
    rw [wl_X10_countLit_14, hx, nI_clamp (by omega), e2]
    refine ⟨vp_in_nI hj (by decide), nm_e ?_⟩
    rw [e]
    exact ⟨hP, d_leT q.2.1 q.2.1 (Nat.le_refl _) (k _) hr.2.1⟩
  | m + 1, c, hc => by
    have hn := hq.2.2.1
    rw [wl_X10_countLit_14, hx, nI_clamp (by omega)]
    refine ⟨vp_in_nI hj (by decide), nm_e ?_⟩
    rw [e]
    refine ⟨hP, d_leF q.2.1 c (by omega) ⟨vp_in_nI hj (by decide), nm_e ⟨hP, c_glimpseAt (j := c) hP hr rfl (by omega) hn ?_⟩⟩ hr.2.1⟩
    rw [← hx]
    refine d_dk (hq.2.2.2.2 c (by omega)) (fun h5 => nm_r (e' := nI (b + aLit q (c + 1))) ?_ (nm_r (nI_1 c) (c_lit_l hj hx hP e hr hq k m (c + 1) (by omega)))) (fun h5 _ => nm_r (e' := nI (b + aLit q (c + 1))) ?_ (nm_r (nI_1 c) (c_lit_l hj hx hP e hr hq k m (c + 1) (by omega))))
    · rw [aLit_d h5, ← Nat.add_assoc]
      exact nI_add _ 0
    · rw [aLit_l (by omega), ← Nat.add_assoc]
      exact nI_add _ 1
theorem c_lits_l {S : St} {w c : Nat} {p : Nat → AP} {K : Int32 → Int32 → St → Prop} (hw : isW w) (hI : IC S) (h3 : gI S w 3 = nI c) (hc : c ≤ 6) (hr : ∀ j, j < c → RC (gI S (gN S (w + 3) j)) (gA S (gN S (w + 3) j + 1)) (p j)) (hv : ∀ j, j < c → VPa (p j)) (k : ∀ y, K (nI (aLits p c)) y S) : ∀ (m i : Nat), i + m = c → wl_X10_countLit_4 w K (m + 1) (nI (aLits p i)) (nI i) S
  | 0, i, hi => by
    have e : i = c := by omega
    rw [wl_X10_countLit_4, h3, e]
    exact d_leT c c (Nat.le_refl _) (k _)
  | m + 1, i, hi => by
    rw [wl_X10_countLit_4, h3]
    refine d_leF c i (by omega) ⟨(p i).2.1 + 1, ?_⟩
    exact c_lit_l (b := aLits p i) (j := i) (by omega) rfl (hI.2.1 w i hw (by omega)).1 rfl (hr i (by omega)) (hv i (by omega)) (fun y => nm_r (nI_1 i) (c_lits_l hw hI h3 hc hr hv k m (i + 1) (by omega))) (p i).2.1 0 (by omega)
theorem r_lit_l {T : St} {u j b bb : Nat} {x : Int32} {q : AP} {K : Int32 → Int32 → St → Prop} (h : At T u j bb) (hx : x = nI j) (hr : RS (gA T 3) bb q) (hq : VPa q) (k : ∀ y, K (nI (b + aLit q q.2.1)) y T) : ∀ (m c : Nat), c + m = q.2.1 → wl_X12_many_58 x K (m + 1) (nI (b + aLit q c)) (nI c) T
  | 0, c, hc => by
    have hn := hq.2.2.1
    have e2 : c = q.2.1 := by omega
    rw [wl_X12_many_58, e2]
    refine r_its h hx (k := 1) rfl (by decide) ?_
    rw [hr.2.1]
    exact d_leT q.2.1 q.2.1 (Nat.le_refl _) (k _)
  | m + 1, c, hc => by
    have hn := hq.2.2.1
    rw [wl_X12_many_58]
    refine r_its h hx (k := 1) rfl (by decide) ?_
    rw [hr.2.1]
    refine d_leF q.2.1 c (by omega) (r_its h hx (k := 3 + c) (nI_add 3 c) (by omega) ?_)
    rw [hr.2.2.2 c (by omega)]
    refine d_nn (hq.2.2.2.2 c (by omega)) (fun h5 _ => nm_r (e' := nI (b + aLit q (c + 1))) ?_ (nm_r (nI_1 c) (r_lit_l h hx hr hq k m (c + 1) (by omega)))) (fun h5 => nm_r (e' := nI (b + aLit q (c + 1))) ?_ (nm_r (nI_1 c) (r_lit_l h hx hr hq k m (c + 1) (by omega))))
    · rw [aLit_l (by omega), ← Nat.add_assoc]
      exact nI_add _ 1
    · rw [aLit_d h5, ← Nat.add_assoc]
      exact nI_add _ 0
theorem r_lits_l {T : St} {t c : Nat} {p : Nat → AP} {K : Int32 → Int32 → St → Prop} (h0 : gI T 0 3 = nI 0) (hr : RW (gA T 3) 0 t c p) (hc : c ≤ 6) (hv : ∀ j, j < c → VPa (p j)) (k : ∀ y, K (nI (aLits p c)) y T) : ∀ (m i : Nat), i + m = c → wl_X12_many_45 K (m + 1) (nI (aLits p i)) (nI i) T
  | 0, i, hi => by
    have e : i = c := by omega
    rw [wl_X12_many_45, e_1, show gA T 3 1 = nI c from hr.2.1, e]
    exact ⟨i_1 (by decide) (by decide), d_leT c c (Nat.le_refl _) (k _)⟩
  | m + 1, i, hi => by
    rw [wl_X12_many_45, e_1, show gA T 3 1 = nI c from hr.2.1]
    refine ⟨i_1 (by decide) (by decide), d_leF c i (by omega) ⟨(p i).2.1 + 1, ?_⟩⟩
    exact r_lit_l (u := 0) (b := aLits p i) (j := i) (bb := 0 + 2 + 19 * i) ⟨h0, rfl, by omega⟩ rfl (hr.2.2 i (by omega)) (hv i (by omega)) (fun y => nm_r (nI_1 i) (r_lits_l h0 hr hc hv k m (i + 1) (by omega))) (p i).2.1 0 (by omega)
theorem st_many : step_many Rel := by
  intro n S T a1 hn h
  have hw := h.1.w
  have h0 := h.2.2.1
  obtain ⟨V, L, t, c, p, hC⟩ := h.2.2.2.1
  have hc3 : gI S (gN S 0 8) 3 = nI c := hC.1.2.2.1
  have ht4 : gI S (gN S 0 8) 4 = nI t := hC.1.2.2.2.1
  have hc6 : c ≤ 6 := hC.2.1.2.1
  have ht5 : t ≤ 50 := hC.2.1.1
  have hr1 : gA T 3 1 = nI c := hC.2.2.2.2.1.2.1
  have hr0 : gA T 3 0 = nI t := hC.2.2.2.2.1.1
  unfold wp_X11_many
  obtain ⟨k2, hk2, hk21, hk22, hk23⟩ := h.2.2.2.2.2.2.1
  obtain ⟨k3, hk3, hk31, hk32, hk33⟩ := h.2.2.2.2.2.1
  obtain ⟨k4, hk4, hk41, hk42, hk43⟩ := h.2.2.2.2.2.2.2.2.2
  refine ⟨fun e => nm_e ⟨hw, ?_⟩, fun e0 => ⟨fun e => nm_e ⟨hw, ?_⟩, fun e1 => ⟨fun e => ?_, fun e2 => ⟨fun e => ?_, fun e3 => ⟨fun e => ?_, fun e4 => ?_⟩⟩⟩⟩⟩
  · unfold wp_X12_many

    rw [e_1]
    exact br_t e ⟨i_1 (by decide) (by decide), hc3.trans hr1.symm, h⟩
  · unfold wp_X10_countLit
    refine ⟨hw, c + 1, c_lits_l hw h.1 hc3 hc6 hC.1.2.2.2.2 hC.2.1.2.2 (fun y => ?_) c 0 (by omega)⟩
    unfold wp_X12_many
    exact br_f e0 (br_t e ⟨c + 1, r_lits_l h0 hC.2.2.2.2.1 hc6 hC.2.1.2.2 (fun y => ⟨rfl, h⟩) c 0 (by omega)⟩)
  · unfold wp_X12_many

    exact br_f e0 (br_f e1 (br_t e ⟨hk21.trans hk22.symm, h⟩))
  · unfold wp_X12_many

    exact br_f e0 (br_f e1 (br_f e2 (br_t e ⟨hk31.trans hk32.symm, h⟩)))
  · unfold wp_X12_many

    exact br_f e0 (br_f e1 (br_f e2 (br_f e3 (br_t e ⟨hk41.trans hk42.symm, h⟩))))
  · unfold wp_X12_many

    exact br_f e0 (br_f e1 (br_f e2 (br_f e3 (br_f e4 ⟨rfl, h⟩))))
