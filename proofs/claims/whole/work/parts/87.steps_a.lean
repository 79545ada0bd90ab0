/-! STEPS: views, loves, z, one pane's own -/
theorem gA_sAn {S : St} {c c' k : Nat} {v : Int32} (h : c' ≠ c) : gA (sA S c k v) c' = gA S c' := if_neg h
theorem gI_sIn {S : St} {c c' k : Nat} {v : Int32} (h : c' ≠ c) : gI (sI S c k v) c' = gI S c' := if_neg h
theorem gN_sNn {S : St} {c c' k v : Nat} (h : c' ≠ c) : gN (sN S c k v) c' = gN S c' := if_neg h
theorem NR.set {f : Nat → Int32} {V : Nat → Nat} {N b k x : Nat} {v : Int32} (h : NR f V N b) (hv : v = nI x) (hx : x ≤ b) : NR (up1 f k v) (up1 V k x) N b := by
  intro j hj
  by_cases e : j = k
  · subst e
    rw [u1_s, u1_s]
    exact ⟨hv, hx⟩
  · rw [u1_n e, u1_n e]
    exact h j hj
theorem Rel.upd {n : List Nat} {S S' T T' : St} {V L : Nat → Nat} {t c : Nat} {p : Nat → AP} (h : Rel n S T) (hS : OS S S') (hK : KM S S') (hT : OT T T') (hI : IC S') (hF : FC S') (h0 : gI T' 0 3 = nI 0) (hC : Cur S' T' V L t c p) : Rel n S' T' := ⟨hI, hF, h0, ⟨V, L, t, c, p, hC⟩, h.2.2.2.2.1.of hK hT, h.2.2.2.2.2.of hS hT⟩
theorem IC.c {S : St} (h : IC S) : gN S 0 8 = 13 ∨ gN S 0 8 = 17 := by
  rcases h.1 with ⟨h1, -⟩ | ⟨h1, -⟩
  · exact Or.inl h1
  · exact Or.inr h1
theorem OS_A {S : St} {c k : Nat} {v : Int32} (h : 13 ≤ c) (h2 : c < 21) : OS S (sA S c k v) := ⟨rfl, gA_sAn (by omega), rfl, gA_sAn (by omega), rfl, gA_sAn (by omega), rfl, rfl, gA_sAn (by omega), fun d hd => ⟨rfl, gA_sAn (by omega), rfl⟩⟩
theorem OS_I {S : St} {c k : Nat} {v : Int32} (h : 13 ≤ c) (h2 : c < 21) : OS S (sI S c k v) := ⟨by rw [gI_sIn (by omega)], rfl, by rw [gI_sIn (by omega)], rfl, rfl, rfl, rfl, by rw [gI_sIn (by omega)], rfl, fun d hd => ⟨gI_sIn (by omega), rfl, rfl⟩⟩
theorem KM_A {S : St} {c k : Nat} {v : Int32} (hI : IC S) (h : 13 ≤ c) (h2 : c < 21) : KM S (sA S c k v) := ⟨rfl, rfl, gA_sAn (by omega), gA_sAn (by omega), rfl, fun j hj => ⟨rfl, gA_sAn (by have g : 21 ≤ gN S 12 j := (hI.2.1 9 j isW9 hj).1.1; omega)⟩⟩
theorem KM_I {S : St} {c k : Nat} {v : Int32} (hI : IC S) (h : 13 ≤ c) (h2 : c < 21) : KM S (sI S c k v) := ⟨by rw [gI_sIn (by omega)], gI_sIn (by omega), rfl, rfl, rfl, fun j hj => ⟨gI_sIn (by have g : 21 ≤ gN S 12 j := (hI.2.1 9 j isW9 hj).1.1; omega), rfl⟩⟩
theorem FC_I {S : St} {c k : Nat} {v : Int32} (hF : FC S) (h2 : c < 21) : FC (sI S c k v) := fun P hP => by
  rw [gI_sIn (by have := hP.1; omega)]
  exact hF P hP
theorem Rel.views {n : List Nat} {S T : St} {k x : Nat} (h : Rel n S T) (hx : x ≤ 99) : Rel n (sA S (gN S 0 8 + 1) k (nI x)) (sA T 1 k (nI x)) := by
  have hI := h.1
  obtain ⟨V, L, t, c, p, ⟨h1, h2, h3, h4, h5⟩, h6, h7, h8, h9, h10⟩ := h.2.2.2.1
  have hc : 13 ≤ gN S 0 8 + 1 ∧ gN S 0 8 + 1 < 21 := by rcases hI.c with e | e <;> rw [e] <;> decide
  refine h.upd (V := up1 V k x) (L := L) (t := t) (c := c) (p := p) (OS_A hc.1 hc.2) (KM_A hI hc.1 hc.2) ⟨rfl, rfl, rfl, rfl, gA_sAn (by decide), gA_sAn (by decide), fun d hd => gA_sAn (by omega), rfl⟩ hI h.2.1 h.2.2.1 ⟨⟨?_, ?_, h3, h4, fun j hj => ?_⟩, h6, ?_, ?_, ?_, h10⟩
  · rw [show gN (sA S (gN S 0 8 + 1) k (nI x)) 0 8 = gN S 0 8 from rfl, gA_sA]
    exact h1.set rfl hx
  · show NR (gA (sA S (gN S 0 8 + 1) k (nI x)) (gN S 0 8 + 2)) L 12 9
    rw [gA_sAn (by omega)]
    exact h2
  · show RC (gI S (gN S (gN S 0 8 + 3) j)) (gA (sA S (gN S 0 8 + 1) k (nI x)) (gN S (gN S 0 8 + 3) j + 1)) (p j)
    rw [gA_sAn (by have := (hI.2.1 _ j hI.w (by have := h6.2.1; omega)).1.1; omega)]
    exact h5 j hj
  · rw [gA_sA]
    exact h7.set rfl hx
  · rw [gA_sAn (by decide)]
    exact h8
  · rw [gA_sAn (by decide)]
    exact h9
theorem Rel.loves {n : List Nat} {S T : St} {k x : Nat} (h : Rel n S T) (hx : x ≤ 9) : Rel n (sA S (gN S 0 8 + 2) k (nI x)) (sA T 2 k (nI x)) := by
  have hI := h.1
  obtain ⟨V, L, t, c, p, ⟨h1, h2, h3, h4, h5⟩, h6, h7, h8, h9, h10⟩ := h.2.2.2.1
  have hc : 13 ≤ gN S 0 8 + 2 ∧ gN S 0 8 + 2 < 21 := by rcases hI.c with e | e <;> rw [e] <;> decide
  refine h.upd (V := V) (L := up1 L k x) (t := t) (c := c) (p := p) (OS_A hc.1 hc.2) (KM_A hI hc.1 hc.2) ⟨rfl, rfl, rfl, rfl, gA_sAn (by decide), gA_sAn (by decide), fun d hd => gA_sAn (by omega), rfl⟩ hI h.2.1 h.2.2.1 ⟨⟨?_, ?_, h3, h4, fun j hj => ?_⟩, h6, ?_, ?_, ?_, h10⟩
  · show NR (gA (sA S (gN S 0 8 + 2) k (nI x)) (gN S 0 8 + 1)) V 200 99
    rw [gA_sAn (by omega)]
    exact h1
  · rw [show gN (sA S (gN S 0 8 + 2) k (nI x)) 0 8 = gN S 0 8 from rfl, gA_sA]
    exact h2.set rfl hx
  · show RC (gI S (gN S (gN S 0 8 + 3) j)) (gA (sA S (gN S 0 8 + 2) k (nI x)) (gN S (gN S 0 8 + 3) j + 1)) (p j)
    rw [gA_sAn (by have := (hI.2.1 _ j hI.w (by have := h6.2.1; omega)).1.1; omega)]
    exact h5 j hj
  · rw [gA_sAn (by decide)]
    exact h7
  · rw [gA_sA]
    exact h8.set rfl hx
  · rw [gA_sAn (by decide)]
    exact h9
theorem gI_sIk {S : St} {c k k' : Nat} {v : Int32} (h : k' ≠ k) : gI (sI S c k v) c k' = gI S c k' := by
  rw [gI_sI]
  exact u1_n h
theorem gI_sIs {S : St} {c k : Nat} {v : Int32} : gI (sI S c k v) c k = v := by
  rw [gI_sI]
  exact u1_s
theorem Rel.seed {n : List Nat} {S T : St} {v : Int32} (h : Rel n S T) : Rel n (sI S (gN S 0 8) 5 v) (sI T 0 4 v) := by
  have hI := h.1
  obtain ⟨V, L, t, c, p, ⟨h1, h2, h3, h4, h5⟩, h6, h7, h8, h9, h10⟩ := h.2.2.2.1
  have hc : 13 ≤ gN S 0 8 ∧ gN S 0 8 < 21 := by rcases hI.c with e | e <;> rw [e] <;> decide
  refine h.upd (V := V) (L := L) (t := t) (c := c) (p := p) (OS_I hc.1 hc.2) (KM_I hI hc.1 hc.2) ⟨gI_sIk (by decide), gI_sIk (by decide), gI_sIk (by decide), gI_sIk (by decide), rfl, rfl, fun _ _ => rfl, rfl⟩ hI (FC_I h.2.1 hc.2) ((gI_sIk (by decide)).trans h.2.2.1) ⟨⟨h1, h2, ?_, ?_, fun j hj => ?_⟩, h6, h7, h8, h9, ?_⟩
  · exact (gI_sIk (by decide)).trans h3
  · exact (gI_sIk (by decide)).trans h4
  · show RC (gI (sI S (gN S 0 8) 5 v) (gN S (gN S 0 8 + 3) j)) (gA S (gN S (gN S 0 8 + 3) j + 1)) (p j)
    rw [gI_sIn (by have := (hI.2.1 _ j hI.w (by have := h6.2.1; omega)).1.1; omega)]
    exact h5 j hj
  · exact gI_sIs.trans gI_sIs.symm
theorem Rel.pane {n : List Nat} {S T : St} {V L : Nat → Nat} {t c j : Nat} {p : Nat → AP} {i a r : Nat → Int32} {q : AP} (h : Rel n S T) (hC : Cur S T V L t c p) (hj : j < c) (hr : RC i a q) (hq : VPa q) (hs : RS r (0 + 2 + 19 * j) q) (ho : Out (gA T 3) r (0 + 2 + 19 * j)) : Rel n (sP S (gN S (gN S 0 8 + 3) j) i a) (sR T 3 r) := by
  have hI := h.1
  obtain ⟨hc, h6, h7, h8, h9, h10⟩ := hC
  have hc6 := h6.2.1
  have hP := (hI.2.1 _ j hI.w (by omega)).1
  have hk : ∀ i, i < 6 → gN S 12 i ≠ gN S (gN S 0 8 + 3) j := fun i hi e => hI.w9 (hI.2.2 9 i _ j isW9 hI.w hi (by omega) e).1.symm
  refine h.upd (V := V) (L := L) (t := t) (c := c) (p := fun x => if x = j then q else p x) (OS.sP hP) (KM.sP hP hk) ⟨rfl, rfl, rfl, rfl, gA_sRn (by decide), gA_sRn (by decide), fun d hd => gA_sRn (by omega), rfl⟩ hI (h.2.1.sP hr) h.2.2.1 ⟨hc.setP hI.w hP fun x hx => ?_, ⟨h6.1, hc6, fun x hx => ?_⟩, ?_, ?_, ⟨?_, ?_, fun x hx => ?_⟩, ?_⟩
  · by_cases e : x = j
    · subst e
      exact Or.inl ⟨rfl, by rw [if_pos rfl]; exact hr⟩
    · exact Or.inr ⟨fun e' => e (hI.2.2 _ x _ j hI.w hI.w (by omega) (by omega) e').2, by rw [if_neg e]⟩
  · show VPa (if x = j then q else p x)
    by_cases e : x = j
    · rw [if_pos e]
      exact hq
    · rw [if_neg e]
      exact h6.2.2 x hx
  · rw [gA_sRn (by decide)]
    exact h7
  · rw [gA_sRn (by decide)]
    exact h8
  · rw [gA_sR, ho _ (by omega)]
    exact h9.1
  · rw [gA_sR, ho _ (by omega)]
    exact h9.2.1
  · rw [gA_sR]
    show RS r (0 + 2 + 19 * x) (if x = j then q else p x)
    by_cases e : x = j
    · subst e
      rw [if_pos rfl]
      exact hs
    · rw [if_neg e]
      exact (h9.2.2 x hx).out (h6.2.2 x hx).2.2.1 ho (by omega)
  · rw [show gN (sP S (gN S (gN S 0 8 + 3) j) i a) 0 8 = gN S 0 8 from rfl, gI_sPn (by have := hP.1; rcases hI.c with e | e <;> omega)]
    exact h10
theorem e_vs {a b : Nat} : nI a * (50 : Int32) + nI b = nI (50 * a + b) := by
  show nI a * nI 50 + nI b = _
  rw [pk_mul, nI_add, Nat.mul_comm]
theorem e_vs2 {a b : Nat} : (50 : Int32) * nI a + nI b = nI (50 * a + b) := by
  show nI 50 * nI a + nI b = _
  rw [pk_mul, nI_add]
theorem e_ls {a b : Nat} : nI a * (4 : Int32) + nI b = nI (4 * a + b) := by
  show nI a * nI 4 + nI b = _
  rw [pk_mul, nI_add, Nat.mul_comm]
theorem e_ls2 {a b : Nat} : (4 : Int32) * nI a + nI b = nI (4 * a + b) := by
  show nI 4 * nI a + nI b = _
  rw [pk_mul, nI_add]
theorem c_vs {a b : Nat} {S : St} {Q : Int32 → St → Prop} (q : Q (nI (50 * a + b)) S) : wp_X11_viewSlot (nI a) (nI b) S Q := by
  unfold wp_X11_viewSlot
  rw [e_vs]
  exact q
theorem c_ls {a b : Nat} {S : St} {Q : Int32 → St → Prop} (q : Q (nI (4 * a + b)) S) : wp_X11_loveSlot (nI a) (nI b) S Q := by
  unfold wp_X11_loveSlot
  rw [e_ls]
  exact q
theorem st_seed : step_seed Rel := by
  intro n S T a1 hn h
  have hw := h.1.w
  have h0 := h.2.2.1
  obtain ⟨V, L, t, c, p, hC⟩ := h.2.2.2.1
  have hc3 : gI S (gN S 0 8) 3 = nI c := hC.1.2.2.1
  have ht4 : gI S (gN S 0 8) 4 = nI t := hC.1.2.2.2.1
  have hc6 : c ≤ 6 := hC.2.1.2.1
  have ht5 : t ≤ 50 := hC.2.1.1
  have hr1 : gA T 3 1 = nI c := hC.2.2.2.2.1.2.1
  have hr0 : gA T 3 0 = nI t := hC.2.2.2.2.1.1
  unfold wp_X11_seed
  unfold wp_X12_seed
  exact nm_e ⟨hw, nm_e (nm_e (nm_e (nm_e ⟨hC.2.2.2.2.2, h.seed⟩)))⟩
theorem st_today : step_today Rel := by
  intro n S T hn h
  have hw := h.1.w
  have h0 := h.2.2.1
  obtain ⟨V, L, t, c, p, hC⟩ := h.2.2.2.1
  have hc3 : gI S (gN S 0 8) 3 = nI c := hC.1.2.2.1
  have ht4 : gI S (gN S 0 8) 4 = nI t := hC.1.2.2.2.1
  have hc6 : c ≤ 6 := hC.2.1.2.1
  have ht5 : t ≤ 50 := hC.2.1.1
  have hr1 : gA T 3 1 = nI c := hC.2.2.2.2.1.2.1
  have hr0 : gA T 3 0 = nI t := hC.2.2.2.2.1.1
  unfold wp_X11_today
  unfold wp_X12_today
  rw [e_0]
  exact nm_e ⟨hw, i_0 (by decide) (by decide), ht4.trans hr0.symm, h⟩
theorem st_view : step_view Rel := by
  intro n S T a1 a2 a3 hn h
  have hw := h.1.w
  have h0 := h.2.2.1
  obtain ⟨V, L, t, c, p, hC⟩ := h.2.2.2.1
  have hc3 : gI S (gN S 0 8) 3 = nI c := hC.1.2.2.1
  have ht4 : gI S (gN S 0 8) 4 = nI t := hC.1.2.2.2.1
  have hc6 : c ≤ 6 := hC.2.1.2.1
  have ht5 : t ≤ 50 := hC.2.1.1
  have hr1 : gA T 3 1 = nI c := hC.2.2.2.2.1.2.1
  have hr0 : gA T 3 0 = nI t := hC.2.2.2.2.1.1
  unfold wp_X11_view
  rcases rng a1 0 4 (by omega) with b | ⟨j1, g1, h1, rfl⟩
  · exact c_place_b b (d_0 ((by unfold wp_X12_view; exact r_place_b b (d_0 (⟨rfl, h⟩)))))
  rcases rng a2 0 50 (by omega) with b | ⟨j2, g2, h2, rfl⟩
  · exact c_place_t h1 (d_1 (c_day_b b (d_0 ((by unfold wp_X12_view; exact r_place_t h1 (d_1 (r_day_b b (d_0 (⟨rfl, h⟩)))))))))
  rcases rng a3 0 100 (by omega) with b | ⟨j3, g3, h3, rfl⟩
  · exact c_place_t h1 (d_1 (c_day_t h2 (d_1 (g2_b (M := 99) b (by unfold wp_X12_view; exact r_place_t h1 (d_1 (r_day_t h2 (d_1 (r_in_b (M := 99) b (d_0 (⟨rfl, h⟩)))))))))))
  refine c_place_t h1 (d_1 (c_day_t h2 (d_1 (g2_t (M := 99) g3 h3 (?_)))))
  refine c_vs ?_
  rw [nI_clamp (by omega)]
  refine nm_e ⟨hw, vp_in_nI (by omega) (by decide), nm_e ⟨vp_in_nI (by omega) (by decide), nm_e ?_⟩⟩
  unfold wp_X12_view
  refine r_place_t h1 (d_1 (r_day_t h2 (d_1 (r_in_t (M := 99) g3 h3 (d_1 (?_))))))
  rw [e_vs2, nI_clamp (by omega)]
  exact ⟨vp_in_nI (by omega) (by decide), nm_e ⟨vp_in_nI (by omega) (by decide), nm_e ⟨((hC.1.1 _ (by omega)).1).trans ((hC.2.2.1 _ (by omega)).1).symm, h.views (by omega)⟩⟩⟩
theorem st_viewOf : step_viewOf Rel := by
  intro n S T a1 a2 hn h
  have hw := h.1.w
  have h0 := h.2.2.1
  obtain ⟨V, L, t, c, p, hC⟩ := h.2.2.2.1
  have hc3 : gI S (gN S 0 8) 3 = nI c := hC.1.2.2.1
  have ht4 : gI S (gN S 0 8) 4 = nI t := hC.1.2.2.2.1
  have hc6 : c ≤ 6 := hC.2.1.2.1
  have ht5 : t ≤ 50 := hC.2.1.1
  have hr1 : gA T 3 1 = nI c := hC.2.2.2.2.1.2.1
  have hr0 : gA T 3 0 = nI t := hC.2.2.2.2.1.1
  unfold wp_X11_viewOf
  rcases rng a1 0 4 (by omega) with b | ⟨j1, g1, h1, rfl⟩
  · exact c_place_b b (d_0 ((by unfold wp_X12_viewOf; exact r_place_b b (d_0 (⟨rfl, h⟩)))))
  rcases rng a2 0 50 (by omega) with b | ⟨j2, g2, h2, rfl⟩
  · exact c_place_t h1 (d_1 (c_day_b b (d_0 ((by unfold wp_X12_viewOf; exact r_place_t h1 (d_1 (r_day_b b (d_0 (⟨rfl, h⟩)))))))))
  refine c_place_t h1 (d_1 (c_day_t h2 (d_1 (?_))))
  refine nm_e ⟨hw, c_vs ?_⟩
  rw [nI_clamp (by omega)]
  refine ⟨vp_in_nI (by omega) (by decide), ?_⟩
  unfold wp_X12_viewOf
  refine r_place_t h1 (d_1 (r_day_t h2 (d_1 (?_))))
  rw [e_vs2, nI_clamp (by omega)]
  exact ⟨vp_in_nI (by omega) (by decide), ((hC.1.1 _ (by omega)).1).trans ((hC.2.2.1 _ (by omega)).1).symm, h⟩
theorem st_love : step_love Rel := by
  intro n S T a1 a2 a3 hn h
  have hw := h.1.w
  have h0 := h.2.2.1
  obtain ⟨V, L, t, c, p, hC⟩ := h.2.2.2.1
  have hc3 : gI S (gN S 0 8) 3 = nI c := hC.1.2.2.1
  have ht4 : gI S (gN S 0 8) 4 = nI t := hC.1.2.2.2.1
  have hc6 : c ≤ 6 := hC.2.1.2.1
  have ht5 : t ≤ 50 := hC.2.1.1
  have hr1 : gA T 3 1 = nI c := hC.2.2.2.2.1.2.1
  have hr0 : gA T 3 0 = nI t := hC.2.2.2.2.1.1
  unfold wp_X11_love
  rcases rng a1 0 3 (by omega) with b | ⟨j1, g1, h1, rfl⟩
  · exact c_looker_b b (d_0 ((by unfold wp_X12_love; exact r_looker_b b (d_0 (⟨rfl, h⟩)))))
  rcases rng a2 0 4 (by omega) with b | ⟨j2, g2, h2, rfl⟩
  · exact c_looker_t h1 (d_1 (c_place_b b (d_0 ((by unfold wp_X12_love; exact r_looker_t h1 (d_1 (r_place_b b (d_0 (⟨rfl, h⟩)))))))))
  rcases rng a3 0 10 (by omega) with b | ⟨j3, g3, h3, rfl⟩
  · exact c_looker_t h1 (d_1 (c_place_t h2 (d_1 (g2_b (M := 9) b (by unfold wp_X12_love; exact r_looker_t h1 (d_1 (r_place_t h2 (d_1 (r_in_b (M := 9) b (d_0 (⟨rfl, h⟩)))))))))))
  refine c_looker_t h1 (d_1 (c_place_t h2 (d_1 (g2_t (M := 9) g3 h3 (?_)))))
  refine c_ls ?_
  rw [nI_clamp (by omega)]
  refine nm_e ⟨hw, vp_in_nI (by omega) (by decide), nm_e ⟨vp_in_nI (by omega) (by decide), nm_e ?_⟩⟩
  unfold wp_X12_love
  refine r_looker_t h1 (d_1 (r_place_t h2 (d_1 (r_in_t (M := 9) g3 h3 (d_1 (?_))))))
  rw [e_ls2, nI_clamp (by omega)]
  exact ⟨vp_in_nI (by omega) (by decide), nm_e ⟨vp_in_nI (by omega) (by decide), nm_e ⟨((hC.1.2.1 _ (by omega)).1).trans ((hC.2.2.2.1 _ (by omega)).1).symm, h.loves (by omega)⟩⟩⟩
theorem st_glimpse : step_glimpse Rel := by
  intro n S T a1 a2 hn h
  have hw := h.1.w
  have h0 := h.2.2.1
  obtain ⟨V, L, t, c, p, hC⟩ := h.2.2.2.1
  have hc3 : gI S (gN S 0 8) 3 = nI c := hC.1.2.2.1
  have ht4 : gI S (gN S 0 8) 4 = nI t := hC.1.2.2.2.1
  have hc6 : c ≤ 6 := hC.2.1.2.1
  have ht5 : t ≤ 50 := hC.2.1.1
  have hr1 : gA T 3 1 = nI c := hC.2.2.2.2.1.2.1
  have hr0 : gA T 3 0 = nI t := hC.2.2.2.2.1.1
  unfold wp_X11_glimpse
  rcases rng a1 0 c (by omega) with b | ⟨j1, g1, h1, rfl⟩
  · exact c_pane_b hw hc3 hc6 b (d_0 ((by unfold wp_X12_glimpse; exact r_pane_b hr1 hc6 b (d_0 (⟨rfl, h⟩)))))
  have hP1 := (h.1.2.1 _ j1 hw (by omega)).1
  have hQ1 := (h.1.2.1 _ j1 hw (by omega)).2
  have hrc1 := hC.1.2.2.2.2 j1 h1
  have hv1 := hC.2.1.2.2 j1 h1
  have hat1 : At T 0 j1 (0 + 2 + 19 * j1) := ⟨h0, rfl, by omega⟩
  have hrs1 := hC.2.2.2.2.1.2.2 j1 h1
  refine c_pane_t hw hc3 hc6 h1 (d_1 (?_))
  rw [nI_clamp (by omega)]
  refine nm_e ⟨hw, vp_in_nI (by omega) (by decide), nm_e ⟨hP1, ?_⟩⟩
  have hn := hv1.2.2.1
  have key : ∀ (R : Int32 → St → Prop), (∀ b, OutR a2 0 (p j1).2.1 → b = (-3 : Int32) → R b T) → (∀ j2, j2 < (p j1).2.1 → a2 = nI j2 → R (eI ((p j1).2.2.2 j2)) T) → wp_X12_glimpse (nI j1) a2 T R := by
    intro R k1 k2
    unfold wp_X12_glimpse
    refine r_pane_t hr1 hc6 h1 (d_1 (r_its hat1 rfl (k := 1) rfl (by decide) ?_))
    rw [hrs1.2.1]
    rcases rng a2 0 (p j1).2.1 (by omega) with b | ⟨j2, g2, h2, rfl⟩
    · exact r_inM_b rfl (by omega) b (d_0 (k1 _ b rfl))
    · refine r_inM_t rfl (by omega) h2 (d_1 (r_its hat1 rfl (k := 3 + j2) (nI_add 3 j2) (by omega) ?_))
      rw [hrs1.2.2.2 j2 h2]
      exact k2 j2 h2 rfl
  rw [hrc1.2.1]
  rcases rng a2 0 (p j1).2.1 (by omega) with b | ⟨j2, g2, h2, rfl⟩
  · have hb := key (fun r1 T1 => (-3 : Int32) = r1 ∧ Rel n S T1) (fun _ _ e => ⟨e.symm, h⟩) (fun j2 h2 e => by rw [e] at b; unfold OutR at b; rw [nI_toInt (by omega)] at b; omega)
    refine ⟨fun _ => hb, fun z => ⟨fun z2 => ?_, fun _ => hb⟩⟩
    rw [Int32.lt_iff_toInt_lt] at z z2
    rw [nI_toInt (by omega)] at z2
    have e0 : (0 : Int32).toInt = 0 := rfl
    unfold OutR at b
    omega
  · refine br_f (nI_pos (by omega)) (br_t (nI_lt h2 (by omega)) (c_glimpseAt hP1 hrc1 rfl h2 hn (key _ (fun _ b _ => ?_) (fun j3 h3 e => ?_))))
    · unfold OutR at b
      rw [nI_toInt (by omega)] at b
      omega
    · rw [(nI_eq (by omega) (by omega)).mp e]
      exact ⟨rfl, h⟩
theorem st_hang : step_hang Rel := by
  intro n S T a1 a2 hn h
  have hw := h.1.w
  have h0 := h.2.2.1
  obtain ⟨V, L, t, c, p, hC⟩ := h.2.2.2.1
  have hc3 : gI S (gN S 0 8) 3 = nI c := hC.1.2.2.1
  have ht4 : gI S (gN S 0 8) 4 = nI t := hC.1.2.2.2.1
  have hc6 : c ≤ 6 := hC.2.1.2.1
  have ht5 : t ≤ 50 := hC.2.1.1
  have hr1 : gA T 3 1 = nI c := hC.2.2.2.2.1.2.1
  have hr0 : gA T 3 0 = nI t := hC.2.2.2.2.1.1
  unfold wp_X11_hang
  rcases rng a1 0 c (by omega) with b | ⟨j1, g1, h1, rfl⟩
  · exact c_pane_b hw hc3 hc6 b (d_0 ((by unfold wp_X12_hang; exact r_pane_b hr1 hc6 b (d_0 (⟨rfl, h⟩)))))
  have hP1 := (h.1.2.1 _ j1 hw (by omega)).1
  have hQ1 := (h.1.2.1 _ j1 hw (by omega)).2
  have hrc1 := hC.1.2.2.2.2 j1 h1
  have hv1 := hC.2.1.2.2 j1 h1
  have hat1 : At T 0 j1 (0 + 2 + 19 * j1) := ⟨h0, rfl, by omega⟩
  have hrs1 := hC.2.2.2.2.1.2.2 j1 h1
  have key : ∀ j2, j2 < 5 → wj_X11_hang_22 (nI j1) (nI j2) (fun r S1 => wp_X12_hang (nI j1) (nI j2) T (fun r1 T1 => r = r1 ∧ Rel n S1 T1)) S := by
    intro j2 h2
    unfold wj_X11_hang_22
    rw [nI_clamp (by omega)]
    refine nm_e ⟨hw, vp_in_nI (by omega) (by decide), nm_e ⟨hP1, c_placeTold hP1 hrc1 hv1 (nm_e ?_)⟩⟩
    unfold wp_X12_hang
    refine r_pane_t hr1 hc6 h1 (d_1 (r_in_t (M := 4) (Nat.zero_le _) h2 (d_1 (r_its hat1 rfl (k := 2) rfl (by decide) (r_bec hat1 rfl (k := 2) rfl (by decide) ?_)))))
    rw [hrs1.2.2.1]
    refine r_hung hv1.2.2.2.1 ⟨rfl, ?_⟩
    rw [sI_P]
    obtain ⟨q1, q2, q3, fc, q4, q5, q6⟩ := hrc1
    refine h.pane hC h1 (q := ((p j1).1, (p j1).2.1, j2, (p j1).2.2.2)) ⟨?_, ?_, u1_s, fc, q4, ?_, q6⟩ (hv1.hang (by omega)) ⟨?_, ?_, u1_s, fun j hj => ?_⟩ fun j hj => u1_n (by omega)
    · rw [u1_n (by decide)]
      exact q1
    · rw [u1_n (by decide)]
      exact q2
    · rw [u1_n (by decide)]
      exact q5
    · rw [u1_n (by omega)]
      exact hrs1.1
    · rw [u1_n (by omega)]
      exact hrs1.2.1
    · rw [u1_n (by omega)]
      exact hrs1.2.2.2 j hj
  refine c_pane_t hw hc3 hc6 h1 (d_1 (?_))
  rcases rng a2 0 4 (by omega) with b | ⟨j2, g2, h2, rfl⟩
  · refine c_place_b b (d_0 ⟨fun e => ?_, fun e => ?_⟩)
    · subst e
      exact key 4 (by decide)
    · unfold wp_X12_hang
      refine r_pane_t hr1 hc6 h1 (d_1 (r_in_b (lo := 0) (M := 4) ?_ (d_0 ⟨rfl, h⟩)))
      unfold OutR at b ⊢
      have e2 : a2.toInt ≠ 4 := fun z => e (Int32.toInt_inj.mp z)
      omega
  · exact c_place_t h2 (d_1 (key j2 (by omega)))
theorem st_cast : step_cast Rel := by
  intro n S T a1 a2 hn h
  have hw := h.1.w
  have h0 := h.2.2.1
  obtain ⟨V, L, t, c, p, hC⟩ := h.2.2.2.1
  have hc3 : gI S (gN S 0 8) 3 = nI c := hC.1.2.2.1
  have ht4 : gI S (gN S 0 8) 4 = nI t := hC.1.2.2.2.1
  have hc6 : c ≤ 6 := hC.2.1.2.1
  have ht5 : t ≤ 50 := hC.2.1.1
  have hr1 : gA T 3 1 = nI c := hC.2.2.2.2.1.2.1
  have hr0 : gA T 3 0 = nI t := hC.2.2.2.2.1.1
  unfold wp_X11_cast
  rcases rng a1 0 c (by omega) with b | ⟨j1, g1, h1, rfl⟩
  · exact c_pane_b hw hc3 hc6 b (d_0 ((by unfold wp_X12_cast; exact r_pane_b hr1 hc6 b (d_0 (⟨rfl, h⟩)))))
  rcases rng a2 0 6 (by omega) with b | ⟨j2, g2, h2, rfl⟩
  · exact c_pane_t hw hc3 hc6 h1 (d_1 (c_kind_b b (d_0 ((by unfold wp_X12_cast; exact r_pane_t hr1 hc6 h1 (d_1 (r_in_b (M := 5) b (d_0 (⟨rfl, h⟩)))))))))
  have hP1 := (h.1.2.1 _ j1 hw (by omega)).1
  have hQ1 := (h.1.2.1 _ j1 hw (by omega)).2
  have hrc1 := hC.1.2.2.2.2 j1 h1
  have hv1 := hC.2.1.2.2 j1 h1
  have hat1 : At T 0 j1 (0 + 2 + 19 * j1) := ⟨h0, rfl, by omega⟩
  have hrs1 := hC.2.2.2.2.1.2.2 j1 h1
  refine c_pane_t hw hc3 hc6 h1 (d_1 (c_kind_t h2 (d_1 (?_))))
  rw [nI_clamp (by omega)]
  refine nm_e ⟨hw, vp_in_nI (by omega) (by decide), nm_e ⟨hP1, nm_e (nm_e ?_)⟩⟩
  unfold wp_X12_cast
  refine r_pane_t hr1 hc6 h1 (d_1 (r_in_t (M := 5) (Nat.zero_le _) h2 (d_1 (?_))))
  refine r_its hat1 rfl (k := 0) rfl (by decide) (r_bec hat1 rfl (k := 0) rfl (by decide) ⟨hrc1.1.trans hrs1.1.symm, ?_⟩)
  rw [sI_P]
  obtain ⟨q1, q2, q3, fc, q4, q5, q6⟩ := hrc1
  refine h.pane hC h1 (q := (j2, (p j1).2.1, (p j1).2.2.1, (p j1).2.2.2)) ⟨u1_s, ?_, ?_, fc, q4, ?_, q6⟩ (hv1.cast h2) ⟨u1_s, ?_, ?_, fun j hj => ?_⟩ fun j hj => u1_n (by omega)
  · rw [u1_n (by decide)]
    exact q2
  · rw [u1_n (by decide)]
    exact q3
  · rw [u1_n (by decide)]
    exact q5
  · rw [u1_n (by omega)]
    exact hrs1.2.1
  · rw [u1_n (by omega)]
    exact hrs1.2.2.1
  · rw [u1_n (by omega)]
    exact hrs1.2.2.2 j hj
theorem st_turn : step_turn Rel := by
  intro n S T a1 hn h
  have hw := h.1.w
  have h0 := h.2.2.1
  obtain ⟨V, L, t, c, p, hC⟩ := h.2.2.2.1
  have hc3 : gI S (gN S 0 8) 3 = nI c := hC.1.2.2.1
  have ht4 : gI S (gN S 0 8) 4 = nI t := hC.1.2.2.2.1
  have hc6 : c ≤ 6 := hC.2.1.2.1
  have ht5 : t ≤ 50 := hC.2.1.1
  have hr1 : gA T 3 1 = nI c := hC.2.2.2.2.1.2.1
  have hr0 : gA T 3 0 = nI t := hC.2.2.2.2.1.1
  unfold wp_X11_turn
  rcases rng a1 0 c (by omega) with b | ⟨j1, g1, h1, rfl⟩
  · exact c_pane_b hw hc3 hc6 b (d_0 ((by unfold wp_X12_turn; exact r_pane_b hr1 hc6 b (d_0 (⟨rfl, h⟩)))))
  have hP1 := (h.1.2.1 _ j1 hw (by omega)).1
  have hQ1 := (h.1.2.1 _ j1 hw (by omega)).2
  have hrc1 := hC.1.2.2.2.2 j1 h1
  have hv1 := hC.2.1.2.2 j1 h1
  have hat1 : At T 0 j1 (0 + 2 + 19 * j1) := ⟨h0, rfl, by omega⟩
  have hrs1 := hC.2.2.2.2.1.2.2 j1 h1
  refine c_pane_t hw hc3 hc6 h1 (d_1 (?_))
  rw [nI_clamp (by omega)]
  refine nm_e ⟨hw, vp_in_nI (by omega) (by decide), nm_e ⟨hP1, c_turn hP1 hrc1 hv1 fun i a hr => nm_e ⟨hw, ?_⟩⟩⟩
  have hwb : gN S 0 8 + 1 < 21 := by rcases h.1.c with e | e <;> rw [e] <;> decide
  refine c_shown hw hP1 (V := V) (by rw [show gN (sP S (gN S (gN S 0 8 + 3) j1) i a) 0 8 = gN S 0 8 from rfl, gA_sPn (by have := hP1.1; omega)]; exact hC.1.1) (by rw [gI_sP, gA_sP]; exact hr) hv1.turn ?_
  unfold wp_X12_turn
  refine r_pane_t hr1 hc6 h1 (d_1 (?_))
  refine r_turns hat1 rfl hrs1 hv1 fun r' hs ho => r_shown (T := sR T 3 r') hat1 rfl (by rw [gA_sR]; exact hs) hv1.turn (V := V) (by rw [gA_sRn (by decide)]; exact hC.2.2.1) ⟨rfl, ?_⟩
  exact h.pane hC h1 hr hv1.turn hs ho
theorem st_draw : step_draw Rel := by
  intro n S T a1 a2 hn h
  have hw := h.1.w
  have h0 := h.2.2.1
  obtain ⟨V, L, t, c, p, hC⟩ := h.2.2.2.1
  have hc3 : gI S (gN S 0 8) 3 = nI c := hC.1.2.2.1
  have ht4 : gI S (gN S 0 8) 4 = nI t := hC.1.2.2.2.1
  have hc6 : c ≤ 6 := hC.2.1.2.1
  have ht5 : t ≤ 50 := hC.2.1.1
  have hr1 : gA T 3 1 = nI c := hC.2.2.2.2.1.2.1
  have hr0 : gA T 3 0 = nI t := hC.2.2.2.2.1.1
  unfold wp_X11_draw
  rcases rng a1 0 4 (by omega) with b | ⟨j1, g1, h1, rfl⟩
  · exact c_place_b b (d_0 ((by unfold wp_X12_draw; exact r_place_b b (d_0 (⟨rfl, h⟩)))))
  rcases rng a2 0 50 (by omega) with b | ⟨j2, g2, h2, rfl⟩
  · exact c_place_t h1 (d_1 (c_day_b b (d_0 ((by unfold wp_X12_draw; exact r_place_t h1 (d_1 (r_day_b b (d_0 (⟨rfl, h⟩)))))))))
  refine c_place_t h1 (d_1 (c_day_t h2 (d_1 (?_))))
  refine nm_e ⟨hw, nm_e (nm_e ⟨hw, nm_e (c_vs ?_)⟩)⟩
  rw [nI_clamp (by omega)]
  refine ⟨vp_in_nI (by omega) (by decide), nm_e ?_⟩
  unfold wp_X12_draw
  refine r_place_t h1 (d_1 (r_day_t h2 (d_1 (?_))))
  refine nm_e ?_
  rw [e_vs2, nI_clamp (by omega)]
  refine ⟨vp_in_nI (by omega) (by decide), nm_e ⟨vp_in_nI (by omega) (by decide), ?_⟩⟩
  rw [show gN (sI S (gN S 0 8) 5 (gI S (gN S 0 8) 5 * 1103515245 + 12345)) 0 8 = gN S 0 8 from rfl, gI_sIs, gI_sIs, gA_sA, u1_s, hC.2.2.2.2.2]
  refine ⟨rfl, ?_⟩
  have e1 : ∃ x : Nat, x ≤ 99 ∧ (((gI T 0 4 * 1103515245 + 12345).toUInt32 >>> ((16 : Int32).toUInt32 &&& Int32.toUInt32 31)).toInt32 - ((gI T 0 4 * 1103515245 + 12345).toUInt32 >>> ((16 : Int32).toUInt32 &&& Int32.toUInt32 31)).toInt32 / (100 : Int32) * (100 : Int32)) = nI x := by
    have e2 := pk_ushr (gI T 0 4 * 1103515245 + 12345) 16 16 (by decide)
    have e3 : ((gI T 0 4 * 1103515245 + 12345).toUInt32 >>> ((16 : Int32).toUInt32 &&& Int32.toUInt32 31)).toInt32 = nI ((gI T 0 4 * 1103515245 + 12345).toBitVec.toNat / 2 ^ 16) := by
      apply Int32.toBitVec_inj.mp
      apply BitVec.eq_of_toNat_eq
      rw [e2, pk_tn (Nat.lt_of_le_of_lt (Nat.div_le_self _ _) (BitVec.isLt _))]
    rw [e3]
    have b := (gI T 0 4 * 1103515245 + 12345).toBitVec.isLt
    refine ⟨(gI T 0 4 * 1103515245 + 12345).toBitVec.toNat / 2 ^ 16 % 100, by omega, pk_rem (d := 100) (by omega) (by omega) (by omega)⟩
  obtain ⟨x, hx, e⟩ := e1
  rw [e]
  have := (h.seed (v := gI T 0 4 * 1103515245 + 12345)).views (k := 50 * j1 + j2) hx
  exact this
