/-! STEPS: shelf, taken, views -/
theorem Rel.shelf {n : List Nat} {S T : St} {s o : Nat} {u x y z : Int32} (h : Rel n S T) (ha : (x = mI 1 ∧ u = mI 1 ∧ o = 0) ∨ (∃ k : Nat, k < 6 ∧ x = nI 0 ∧ y = nI k ∧ u = nI k ∧ o = 0) ∨ (x = nI 1 ∧ u = mI 1 ∧ ¬ o = 0 ∧ SHok n S o ∧ ∃ so k : Nat, SHas S o so k ∧ y = nI so ∧ z = nI k)) : Rel n (sN (sA S 5 s u) 6 s o) (sA (sA (sA T 14 s x) 15 s y) 16 s z) := by
  obtain ⟨o1, o2, o3, o4, o5⟩ := h.2.2.2.2.2
  have hd : DY n n S (sN (sA S 5 s u) 6 s o) := DY.same fun c hc => ⟨rfl, gA_sAn (S := S) (by omega), gN_sNn (by omega)⟩
  have eA : ∀ c, c ≠ 14 → c ≠ 15 → c ≠ 16 → gA (sA (sA (sA T 14 s x) 15 s y) 16 s z) c = gA T c := by
    intro c h1 h2 h3
    rw [gA_sAn h3, gA_sAn h2, gA_sAn h1]
  have bA : ∀ c, c ≠ 5 → gA (sN (sA S 5 s u) 6 s o) c = gA S c := fun c hc => gA_sAn (S := S) hc
  have bN : ∀ c, c ≠ 6 → gN (sN (sA S 5 s u) 6 s o) c = gN S c := fun c hc => gN_sNn (S := sA S 5 s u) hc
  refine h.side ((SJ_A (S := S) (k := s) (v := u) (Or.inl (by decide : 5 < 9))).trans (SJ_N (by decide) (by decide))) ((TS_A (by decide)).trans ((TS_A (by decide)).trans (TS_A (by decide)))) rfl rfl (eA 18 (by decide) (by decide) (by decide)) ⟨o1.of2 rfl (bA 2 (by decide)) rfl (eA 4 (by decide) (by decide) (by decide)), o2.of2 rfl (bA 3 (by decide)) rfl (eA 9 (by decide) (by decide) (by decide)), o3.dy (bN 4 (by decide)) hd (eA 11 (by decide) (by decide) (by decide)) (eA 12 (by decide) (by decide) (by decide)) rfl, ?_, o5.of2 rfl (bA 8 (by decide)) rfl (eA 17 (by decide) (by decide) (by decide))⟩
  have e14 : gA (sA (sA (sA T 14 s x) 15 s y) 16 s z) 14 = up1 (gA T 14) s x := by rw [gA_sAn (by decide), gA_sAn (by decide), gA_sA]
  have e15 : gA (sA (sA (sA T 14 s x) 15 s y) 16 s z) 15 = up1 (gA T 15) s y := by rw [gA_sAn (by decide), gA_sA, gA_sAn (by decide)]
  have e16 : gA (sA (sA (sA T 14 s x) 15 s y) 16 s z) 16 = up1 (gA T 16) s z := by rw [gA_sA, gA_sAn (by decide), gA_sAn (by decide)]
  have e5 : gA (sN (sA S 5 s u) 6 s o) 5 = up1 (gA S 5) s u := gA_sA S 5 s u
  have e6 : gN (sN (sA S 5 s u) 6 s o) 6 = up1 (gN S 6) s o := gN_sN (sA S 5 s u) 6 s o
  unfold RShelves
  rw [e14, e15, e16, e5, e6]
  intro s' hs'
  by_cases es : s' = s
  · subst es
    rw [u1_s, u1_s, u1_s, u1_s, u1_s]
    rcases ha with h1 | h1 | ⟨h1, h2, h3, h4, so, k, h5, h6⟩
    · exact Or.inl h1
    · exact Or.inr (Or.inl h1)
    · exact Or.inr (Or.inr ⟨h1, h2, h3, h4.dy hd, so, k, h5.dy h4 hd, h6⟩)
  · rw [u1_n es, u1_n es, u1_n es, u1_n es, u1_n es]
    rcases o4 s' hs' with h1 | h1 | ⟨h1, h2, h3, h4, so, k, h5, h6⟩
    · exact Or.inl h1
    · exact Or.inr (Or.inl h1)
    · exact Or.inr (Or.inr ⟨h1, h2, h3, h4.dy hd, so, k, h5.dy h4 hd, h6⟩)
theorem r_held_b {T : St} {a b : Int32} {c : Nat} {Q : Int32 → St → Prop} (h1 : gA T 3 1 = nI c) (hc6 : c ≤ 6) (h : OutR a 0 3 ∨ (a = nI 0 ∧ OutR b 0 c) ∨ (a = nI 1 ∧ OutR b 0 4)) (q : Q 0 T) : wp_X12_isHeld a b T Q := by
  unfold wp_X12_isHeld
  rcases h with h | ⟨rfl, h⟩ | ⟨rfl, h⟩
  · have hne : ∀ k, k < 3 → ¬ a = nI k := fun k hk e => by
      rw [e] at h
      unfold OutR at h
      rw [nI_toInt (by omega)] at h
      omega
    exact br_f (hne 0 (by decide)) (br_f (hne 1 (by decide)) (br_f (hne 2 (by decide)) q))
  · exact d_eqT 0 0 rfl (r_pane_b h1 hc6 h ⟨isB_0, q⟩)
  · exact d_eqF 1 0 (by decide) (d_eqT 1 1 rfl (r_shelf_b h ⟨isB_0, q⟩))
theorem c_shelf58 {n : List Nat} {S : St} {s : Nat} {a2 a3 u : Int32} {Q : Int32 → St → Prop} (hs : s < 4) (h : (a2 = 1 → ∃ j, j < 4 ∧ a3 = nI j ∧ (¬ gN S 4 j = 0 → isSh n S (gN S 4 j)) ∧ Q 1 (sN (sA S 5 s u) 6 s (gN S 4 j))) ∧ (¬ a2 = 1 → Q 1 (sN (sA S 5 s u) 6 s 0))) : wj_X11_shelf_58 n (nI s) a2 a3 Q u (nI s) S := by
  unfold wj_X11_shelf_58
  rw [nI_clamp (by omega)]
  refine ⟨vp_in_nI (by omega) (by decide), nm_e ⟨fun e => ?_, fun e => ⟨vp_in_nI (by omega) (by decide), nm_e (h.2 e)⟩⟩⟩
  obtain ⟨j, hj, e2, h3, h4⟩ := h.1 e
  subst e2
  rw [nI_clamp (by omega), show gN (sA S 5 s u) 4 j = gN S 4 j from rfl]
  refine ⟨vp_in_nI (by omega) (by decide), nm_e ⟨fun e3 => ⟨vp_in_nI (by omega) (by decide), nm_e ?_⟩, fun e3 => ⟨h3 e3, vp_in_nI (by omega) (by decide), nm_e h4⟩⟩⟩
  rw [e3] at h4
  exact h4
theorem r_shelf47 {T : St} {s : Nat} {a2 a3 q : Int32} {Q : Int32 → St → Prop} (hs : s < 4) (h : (a2 = 1 → ∃ j, j < 4 ∧ a3 = nI j ∧ Q 1 (sA (sA (sA T 14 s q) 15 s (gA T 11 j)) 16 s (gA T 12 j))) ∧ (¬ a2 = 1 → Q 1 (sA (sA (sA T 14 s q) 15 s a3) 16 s 0))) : wj_X12_shelf_47 (nI s) a2 a3 Q q (nI s) T := by
  unfold wj_X12_shelf_47
  rw [nI_clamp (by omega)]
  refine ⟨vp_in_nI (by omega) (by decide), nm_e ⟨fun e => ?_, fun e => ?_⟩⟩
  · obtain ⟨j, hj, e2, h4⟩ := h.1 e
    subst e2
    unfold wj_X12_shelf_68
    rw [nI_clamp (by omega), nI_clamp (by omega)]
    exact ⟨vp_in_nI (by omega) (by decide), vp_in_nI (by omega) (by decide), nm_e (br_t e ⟨vp_in_nI (by omega) (by decide), vp_in_nI (by omega) (by decide), nm_e h4⟩)⟩
  · unfold wj_X12_shelf_68
    rw [nI_clamp (by omega)]
    exact ⟨vp_in_nI (by omega) (by decide), nm_e (br_f e ⟨vp_in_nI (by omega) (by decide), nm_e (h.2 e)⟩)⟩
theorem st_shelf : step_shelf Rel := by
  intro n S T a1 a2 a3 hn h
  have hw := h.1.w
  have h0 := h.2.2.1
  obtain ⟨V, L, t, c, p, hC⟩ := h.2.2.2.1
  have hc3 : gI S (gN S 0 8) 3 = nI c := hC.1.2.2.1
  have ht4 : gI S (gN S 0 8) 4 = nI t := hC.1.2.2.2.1
  have hc6 : c ≤ 6 := hC.2.1.2.1
  have ht5 : t ≤ 50 := hC.2.1.1
  have hr1 : gA T 3 1 = nI c := hC.2.2.2.2.1.2.1
  have hr0 : gA T 3 0 = nI t := hC.2.2.2.2.1.1
  unfold wp_X11_shelf
  rcases rng a1 0 4 (by omega) with b | ⟨j1, g1, h1, rfl⟩
  · exact c_shelf_b b (d_0 ((by unfold wp_X12_shelf; exact r_shelf_b b (d_0 (⟨rfl, h⟩)))))
  have hS := h.2.2.2.2.2.2.2.1
  have kb : (OutR a2 0 3 ∨ (a2 = nI 0 ∧ OutR a3 0 c) ∨ (a2 = nI 1 ∧ OutR a3 0 4)) → wp_X12_shelf (nI j1) a2 a3 T (fun r1 T1 => (-1 : Int32) = r1 ∧ Rel n S T1) := by
    intro b
    unfold wp_X12_shelf
    exact r_shelf_t h1 (d_1 (r_held_b hr1 hc6 b (d_0 ⟨rfl, h⟩)))
  refine c_shelf_t h1 (d_1 (?_))
  rcases rng a2 0 3 (by omega) with b | ⟨j2, g2, h2, rfl⟩
  · exact g2_b (M := 2) b (kb (Or.inl b))
  refine g2_t (M := 2) (Nat.zero_le _) h2 ?_
  have hj : j2 = 0 ∨ j2 = 1 ∨ j2 = 2 := by omega
  rcases hj with rfl | rfl | rfl
  · refine d_eqT 0 0 rfl ?_
    rcases rng a3 0 c (by omega) with b | ⟨j3, g3, h3, rfl⟩
    · exact c_pane_b hw hc3 hc6 b (d_0 (kb (Or.inr (Or.inl ⟨rfl, b⟩))))
    refine c_pane_t hw hc3 hc6 h3 (d_1 ?_)
    unfold wj_X11_shelf_30
    refine d_eqF 0 1 (by decide) ?_
    unfold wj_X11_shelf_44
    refine d_eqT 0 0 rfl (c_shelf58 h1 ⟨fun z => absurd z (by decide), fun _ => ?_⟩)
    unfold wp_X12_shelf
    refine r_shelf_t h1 (d_1 (?_))
    unfold wp_X12_isHeld
    refine d_eqT 0 0 rfl (r_pane_t hr1 hc6 h3 ⟨isB_1, d_1 (d_eqF 0 2 (by decide) (d_eqF 0 1 (by decide) ?_))⟩)
    unfold wj_X12_shelf_46
    exact r_shelf47 h1 ⟨fun z => absurd z (by decide), fun _ => ⟨rfl, h.shelf (Or.inr (Or.inl ⟨j3, by omega, rfl, rfl, rfl, rfl⟩))⟩⟩
  · refine d_eqF 1 0 (by decide) ?_
    unfold wj_X11_shelf_30
    refine d_eqT 1 1 rfl ?_
    rcases rng a3 0 4 (by omega) with b | ⟨j3, g3, h3, rfl⟩
    · exact c_sheet_b b (d_0 (kb (Or.inr (Or.inr ⟨rfl, b⟩))))
    refine c_sheet_t h3 (d_1 ?_)
    unfold wj_X11_shelf_44
    refine d_eqF 1 0 (by decide) (c_shelf58 h1 ⟨fun _ => ⟨j3, h3, rfl, fun z => (hS.ok h3 z).1, ?_⟩, fun z => absurd rfl z⟩)
    unfold wp_X12_shelf
    refine r_shelf_t h1 (d_1 (?_))
    unfold wp_X12_isHeld
    refine d_eqF 1 0 (by decide) (d_eqT 1 1 rfl (r_shelf_t h3 ⟨isB_1, d_1 (d_eqF 1 2 (by decide) (d_eqT 1 1 rfl ?_))⟩))
    rw [nI_clamp (by omega)]
    refine ⟨vp_in_nI (by omega) (by decide), ?_⟩
    rcases hS.1 j3 h3 with ⟨e0, e1⟩ | ⟨e0, hok, so, k, qq, q5, q6, q7⟩
    · rw [e1]
      refine br_f (mI_nle (by decide) (by decide) 0 (by decide)) ?_
      unfold wj_X12_shelf_42
      exact r_shelf47 h1 ⟨fun _ => ⟨j3, h3, rfl, rfl, h.shelf (Or.inl ⟨rfl, rfl, e0⟩)⟩, fun z => absurd rfl z⟩
    · rw [q5]
      refine br_t (nI_pos' (by have := qq.1; omega)) ?_
      unfold wj_X12_shelf_46
      exact r_shelf47 h1 ⟨fun _ => ⟨j3, h3, rfl, rfl, h.shelf (Or.inr (Or.inr ⟨rfl, rfl, e0, hok, so, k, qq, q5, q6⟩))⟩, fun z => absurd rfl z⟩
  · refine d_eqF 2 0 (by decide) ?_
    unfold wj_X11_shelf_30
    refine d_eqF 2 1 (by decide) ?_
    unfold wj_X11_shelf_44
    refine d_eqF 2 0 (by decide) (c_shelf58 h1 ⟨fun z => absurd z (by decide), fun _ => ?_⟩)
    unfold wp_X12_shelf
    refine r_shelf_t h1 (d_1 (?_))
    unfold wp_X12_isHeld
    refine d_eqF 2 0 (by decide) (d_eqF 2 1 (by decide) (d_eqT 2 2 rfl (d_1 (d_eqT 2 2 rfl ?_))))
    unfold wj_X12_shelf_42
    exact r_shelf47 h1 ⟨fun z => absurd z (by decide), fun _ => ⟨rfl, h.shelf (Or.inl ⟨rfl, rfl, rfl⟩)⟩⟩
/-! taken -/
def aUn (k as : Nat) : Prop := as = 0 ∨ as = k ∨ (as = 1 ∧ k = 2) ∨ (as = 3 ∧ k = 4)
theorem c_under {S : St} {k as : Nat} {Q : Int32 → St → Prop} (hk : k < 6) (ha : as < 6) (q1 : aUn k as → Q 1 S) (q0 : ¬ aUn k as → Q 0 S) : wp_X11_isUnder (nI k) (nI as) S Q := by
  unfold wp_X11_isUnder
  unfold aUn at q1 q0
  exact pk_eq as k (fun e => q1 (by omega)) (fun e => pk_eq as 0 (fun e2 => q1 (by omega)) (fun e2 => pk_eq as 1 (fun e3 => pk_eq k 2 (fun e4 => q1 (by omega)) (fun e4 => pk_eq as 3 (fun e5 => pk_eq k 4 (fun e6 => q1 (by omega)) (fun e6 => q0 (by omega))) (fun e5 => q0 (by omega)))) (fun e3 => pk_eq as 3 (fun e5 => pk_eq k 4 (fun e6 => q1 (by omega)) (fun e6 => q0 (by omega))) (fun e5 => q0 (by omega)))))
theorem r_under {T : St} {k as : Nat} {Q : Int32 → St → Prop} (hk : k < 6) (ha : as < 6) (q1 : aUn k as → Q 1 T) (q0 : ¬ aUn k as → Q 0 T) : wp_X12_isUnder (nI k) (nI as) T Q := by
  unfold wp_X12_isUnder
  unfold aUn at q1 q0
  exact pk_eq as 0 (fun e => q1 (by omega)) (fun e => pk_eq as k (fun e2 => q1 (by omega)) (fun e2 => pk_eq as 1 (fun e3 => pk_eq k 2 (fun e4 => q1 (by omega)) (fun e4 => pk_eq as 3 (fun e5 => pk_eq k 4 (fun e6 => q1 (by omega)) (fun e6 => q0 (by omega))) (fun e5 => q0 (by omega)))) (fun e3 => pk_eq as 3 (fun e5 => pk_eq k 4 (fun e6 => q1 (by omega)) (fun e6 => q0 (by omega))) (fun e5 => q0 (by omega)))))
theorem r_kindOn {n : List Nat} {S T : St} {V L : Nat → Nat} {t c s : Nat} {p : Nat → AP} {Q : Int32 → St → Prop} (h : Rel n S T) (hC : Cur S T V L t c p) (hs : s < 4) (q1 : (gA T 14 s = mI 1 ∧ gA S 5 s = mI 1 ∧ gN S 6 s = 0) → Q (-1) T) (q2 : ∀ k, k < 6 → ¬ k < c → gA T 14 s = nI 0 → gA T 15 s = nI k → gA S 5 s = nI k → gN S 6 s = 0 → Q (-1) T) (q3 : ∀ k, k < c → gA T 14 s = nI 0 → gA T 15 s = nI k → gA S 5 s = nI k → gN S 6 s = 0 → Q (nI (p k).1) T) (q4 : gA T 14 s = nI 1 → gA S 5 s = mI 1 → ¬ gN S 6 s = 0 → SHok n S (gN S 6 s) → ∀ so k : Nat, SHas S (gN S 6 s) so k → gA T 15 s = nI so → gA T 16 s = nI k → Q 9 T) : wp_X12_kindOn (nI s) T Q := by
  have hc6 := hC.2.1.2.1
  have hr1 : gA T 3 1 = nI c := hC.2.2.2.2.1.2.1
  unfold wp_X12_kindOn
  rw [nI_clamp (by omega)]
  refine ⟨vp_in_nI (by omega) (by decide), ?_⟩
  rcases h.2.2.2.2.2.2.2.2.1 s hs with g | ⟨k, g1, g2, g3, g4, g5⟩ | ⟨g1, g2, g3, g4, so, k, g5, g6, g7⟩
  · rw [g.1]
    exact br_f (mI_ne (by decide) (by decide) 0 (by decide)) ⟨vp_in_nI (by omega) (by decide), br_f (mI_nle (by decide) (by decide) 0 (by decide)) (q1 g)⟩
  · rw [g2]
    refine d_eqT 0 0 rfl ⟨vp_in_nI (by omega) (by decide), ?_⟩
    rw [g3]
    by_cases hk : k < c
    · refine r_pane_t hr1 hc6 hk (d_1 ⟨vp_in_nI (by omega) (by decide), ?_⟩)
      rw [g3]
      refine r_its (u := 0) (b := 0 + 2 + 19 * k) ⟨h.2.2.1, rfl, by omega⟩ rfl (k := 0) rfl (by decide) ?_
      rw [show gA T 3 (0 + 2 + 19 * k + 0) = nI (p k).1 from (hC.2.2.2.2.1.2.2 k hk).1]
      exact q3 k hk g2 g3 g4 g5
    · exact r_pane_b hr1 hc6 (Or.inr (by rw [nI_toInt (by omega)]; omega)) (d_0 (q2 k g1 hk g2 g3 g4 g5))
  · rw [g1]
    exact d_eqF 1 0 (by decide) ⟨vp_in_nI (by omega) (by decide), br_t (nI_pos' (by decide)) (q4 g1 g2 g3 g4 so k g5 g6 g7)⟩
theorem e_a10 {a : Int32} {j : Nat} (h : a - (10 : Int32) = nI j) : a = nI (10 + j) := by
  have e : a = (a - 10) + 10 := (Int32.sub_add_cancel a 10).symm
  rw [e, h]
  show nI j + nI 10 = _
  rw [nI_add, Nat.add_comm]
/-- what taken answers, both sides, once 'as' is a kind (r2 = 1) or a sort (r2 = 0) -/
theorem tk {n : List Nat} {S T : St} {V L : Nat → Nat} {t c s : Nat} {p : Nat → AP} {a2 r2 : Int32} (h : Rel n S T) (hC : Cur S T V L t c p) (hs : s < 4) (ha : (∃ as, as < 6 ∧ a2 = nI as ∧ r2 = 1) ∨ (∃ as, as < 4 ∧ a2 = nI (10 + as) ∧ r2 = 0)) (kr : ∀ R : Int32 → St → Prop, wj_X12_taken_29 (nI s) a2 R T → wp_X12_taken (nI s) a2 T R) : wj_X11_taken_28 n (nI s) a2 r2 (fun r S1 => wp_X12_taken (nI s) a2 T (fun r1 T1 => r = r1 ∧ Rel n S1 T1)) S := by
  have hw := h.1.w
  have hc3 : gI S (gN S 0 8) 3 = nI c := hC.1.2.2.1
  have hc6 := hC.2.1.2.1
  unfold wj_X11_taken_28
  rw [nI_clamp (by omega)]
  refine ⟨vp_in_nI (by omega) (by decide), nm_e ?_⟩
  rcases h.2.2.2.2.2.2.2.2.1 s hs with ⟨g1, g2, g3⟩ | ⟨k, g1, g2, g3, g4, g5⟩ | ⟨g1, g2, g3, g4, so, k, g5, g6, g7⟩
  · refine br_t g3 ⟨vp_in_nI (by omega) (by decide), nm_e ?_⟩
    rw [g2]
    refine c_pane_b hw hc3 hc6 (Or.inl (by rw [mI_toInt (by decide)]; decide)) (d_0 (kr _ ?_))
    unfold wj_X12_taken_29
    refine r_kindOn h hC hs (fun _ => br_f (by decide) ⟨rfl, h⟩) (fun k z1 z2 z3 => ?_) (fun k z1 z2 => ?_) (fun z1 => ?_)
    · exact absurd (g1.symm.trans z3) (mI_ne (by decide) (by decide) 0 (by decide))
    · exact absurd (g1.symm.trans z2) (mI_ne (by decide) (by decide) 0 (by decide))
    · exact absurd (g1.symm.trans z1) (mI_ne (by decide) (by decide) 1 (by decide))
  · refine br_t g5 ⟨vp_in_nI (by omega) (by decide), nm_e ?_⟩
    rw [g4]
    by_cases hk : k < c
    · have hP := (h.1.2.1 _ k hw (by omega)).1
      have hv := hC.2.1.2.2 k hk
      have hrc := hC.1.2.2.2.2 k hk
      have rr : ∀ R : Int32 → St → Prop, ((((10 : Int32) ≤ a2 → R (-13 : Int32) T) ∧ (¬ (10 : Int32) ≤ a2 → wp_X12_isUnder (nI (p k).1) a2 T (fun r12 S11 => ((r12 = 0 → R (-13 : Int32) S11) ∧ (¬ r12 = 0 → (vp_in (nI s) 4 ∧ R (gA S11 15 (nI s).toNatClampNeg) S11)))))) → wp_X12_taken (nI s) a2 T R) := by
        intro R hR
        refine kr R ?_
        unfold wj_X12_taken_29
        refine r_kindOn h hC hs (fun z => ?_) (fun k' z1 z2 z3 z4 => ?_) (fun k' z1 z2 z3 _ _ => ?_) (fun z1 => ?_)
        · exact absurd (z.1.symm.trans g2) (mI_ne (by decide) (by decide) 0 (by decide))
        · have e := (nI_eq (by omega) (by omega)).mp (g3.symm.trans z4)
          omega
        · have e := (nI_eq (by omega) (by omega)).mp (g3.symm.trans z3)
          subst e
          exact br_t (nI_pos' (by have := hv.1; omega)) (d_eqF (p k).1 9 (by have := hv.1; omega) hR (by rfl) (by rfl) (by have := hv.1; omega))
        · have e := (nI_eq (by decide) (by decide)).mp (g2.symm.trans z1)
          omega
      refine c_pane_t hw hc3 hc6 hk (d_1 ?_)
      rcases ha with ⟨as, has, rfl, rfl⟩ | ⟨as, has, rfl, rfl⟩
      · refine d_1 (nm_e ⟨hw, vp_in_nI (by omega) (by decide), ?_⟩)
        rw [nI_clamp (by omega)]
        refine nm_e ⟨hP, ?_⟩
        rw [show gI S (gN S (gN S 0 8 + 3) k) 2 = nI (p k).1 from hrc.1]
        refine c_under hv.1 has (fun u => d_1 (rr _ (d_leF 10 as (by omega) (r_under hv.1 has (fun _ => d_1 ⟨vp_in_nI (by omega) (by decide), ?_, h⟩) (fun z => absurd u z))))) (fun u => d_0 (rr _ (d_leF 10 as (by omega) (r_under hv.1 has (fun z => absurd z u) (fun _ => d_0 ⟨rfl, h⟩)))))
        rw [nI_clamp (by omega)]
        exact g3.symm
      · exact d_0 (rr _ (d_leT 10 (10 + as) (by omega) ⟨rfl, h⟩))
    · refine c_pane_b hw hc3 hc6 (Or.inr (by rw [nI_toInt (by omega)]; omega)) (d_0 (kr _ ?_))
      unfold wj_X12_taken_29
      refine r_kindOn h hC hs (fun _ => br_f (by decide) ⟨rfl, h⟩) (fun _ _ _ _ _ _ _ => br_f (by decide) ⟨rfl, h⟩) (fun k' z1 z2 z3 _ _ => ?_) (fun z1 => ?_)
      · have e := (nI_eq (by omega) (by omega)).mp (g3.symm.trans z3)
        omega
      · have e := (nI_eq (by decide) (by decide)).mp (g2.symm.trans z1)
        omega
  · refine br_f g3 ⟨g4.1, ?_⟩
    have rr : ∀ R : Int32 → St → Prop, ((a2 = ((10 : Int32) + nI so) → R (nI k) T) ∧ (¬ a2 = ((10 : Int32) + nI so) → R (-13 : Int32) T)) → wp_X12_taken (nI s) a2 T R := by
      intro R hR
      refine kr R ?_
      unfold wj_X12_taken_29
      refine r_kindOn h hC hs (fun z => ?_) (fun k' z1 z2 z3 => ?_) (fun k' z1 z2 => ?_) (fun _ _ _ _ so' k' _ z6 z7 => ?_)
      · exact absurd (z.1.symm.trans g1) (mI_ne (by decide) (by decide) 1 (by decide))
      · have e := (nI_eq (by decide) (by decide)).mp (z3.symm.trans g1)
        omega
      · have e := (nI_eq (by decide) (by decide)).mp (z2.symm.trans g1)
        omega
      · rw [nI_clamp (by omega), g6, g7]
        exact br_t (by decide) (br_t rfl ⟨vp_in_nI (by omega) (by decide), ⟨fun e => ⟨vp_in_nI (by omega) (by decide), hR.1 e⟩, fun e => hR.2 e⟩⟩)
    have hso := g5.1
    rcases ha with ⟨as, has, rfl, rfl⟩ | ⟨as, has, rfl, rfl⟩
    · refine br_f (by decide) (br_t rfl (rr _ (br_f (fun z => ?_) ⟨rfl, h⟩)))
      have z' : nI as = nI (10 + so) := z.trans (nI_add 10 so)
      have e := (nI_eq (by omega) (by omega)).mp z'
      omega
    · have e10 : nI (10 + as) - (10 : Int32) = nI as := by
        have : nI (10 + as) - nI 10 = nI (10 + as - 10) := pk_sub (by omega)
        rw [Nat.add_sub_cancel_left] at this
        exact this
      rw [e10, g5.2.2.1]
      refine br_t rfl (pk_eq so as (fun e => ?_) (fun e => ?_))
      · refine br_f (by decide) (nm_e ⟨g4.2.1, ?_⟩)
        rw [g5.2.2.2]
        exact rr _ (br_t (by rw [e]; exact (nI_add 10 as).symm) ⟨rfl, h⟩)
      · refine br_t rfl (rr _ (br_f (fun z => ?_) ⟨rfl, h⟩))
        have z' : nI (10 + as) = nI (10 + so) := z.trans (nI_add 10 so)
        have e := (nI_eq (by omega) (by omega)).mp z'
        omega
theorem st_taken : step_taken Rel := by
  intro n S T a1 a2 hn h
  have hw := h.1.w
  have h0 := h.2.2.1
  obtain ⟨V, L, t, c, p, hC⟩ := h.2.2.2.1
  have hc3 : gI S (gN S 0 8) 3 = nI c := hC.1.2.2.1
  have ht4 : gI S (gN S 0 8) 4 = nI t := hC.1.2.2.2.1
  have hc6 : c ≤ 6 := hC.2.1.2.1
  have ht5 : t ≤ 50 := hC.2.1.1
  have hr1 : gA T 3 1 = nI c := hC.2.2.2.2.1.2.1
  have hr0 : gA T 3 0 = nI t := hC.2.2.2.2.1.1
  unfold wp_X11_taken
  have kb : OutR a1 0 4 → wp_X12_taken a1 a2 T (fun r1 T1 => (-1 : Int32) = r1 ∧ Rel n S T1) := by
    intro b
    unfold wp_X12_taken
    exact r_shelf_b b (d_0 ⟨rfl, h⟩)
  rcases rng a2 0 6 (by omega) with b | ⟨j2, g2, h2, rfl⟩
  · refine c_kind_b b ?_
    rcases rng a1 0 4 (by omega) with b1 | ⟨j1, g1, h1, rfl⟩
    · exact c_shelf_b b1 (d_0 (kb b1))
    refine c_shelf_t h1 (d_1 (d_0 ?_))
    rcases rng a2 10 14 (by omega) with b2 | ⟨j2, g2, h2, rfl⟩
    · have b3 : OutR (a2 - (10 : Int32)) 0 4 := by
        rcases rng (a2 - (10 : Int32)) 0 4 (by omega) with b3 | ⟨j, g, hj, e⟩
        · exact b3
        · have e2 := e_a10 e
          rw [e2] at b2
          unfold OutR at b2
          rw [nI_toInt (by omega)] at b2
          omega
      refine c_sort_b b3 (d_0 ?_)
      unfold wp_X12_taken
      exact r_shelf_t h1 (d_1 (r_in_b (M := 5) b (d_0 (r_in_b (lo := 10) (M := 13) b2 (d_0 ⟨rfl, h⟩)))))
    · obtain ⟨as, rfl⟩ : ∃ as, j2 = 10 + as := ⟨j2 - 10, by omega⟩
      have e10 : nI (10 + as) - (10 : Int32) = nI as := by
        have : nI (10 + as) - nI 10 = nI (10 + as - 10) := pk_sub (by omega)
        rw [Nat.add_sub_cancel_left] at this
        exact this
      have hst : ∀ Q : Int32 → St → Prop, Q 1 S → wp_X11_isSort (nI (10 + as) - (10 : Int32)) S Q := fun Q q => by
        rw [e10]
        exact c_sort_t (by omega) q
      refine hst _ (d_1 (tk h hC h1 (Or.inr ⟨as, by omega, rfl, rfl⟩) fun R hR => ?_))
      unfold wp_X12_taken
      exact r_shelf_t h1 (d_1 (r_in_b (M := 5) b (d_0 (r_in_t (M := 13) g2 h2 (d_1 hR)))))
  · refine c_kind_t h2 ?_
    rcases rng a1 0 4 (by omega) with b1 | ⟨j1, g1, h1, rfl⟩
    · exact c_shelf_b b1 (d_0 (kb b1))
    refine c_shelf_t h1 (d_1 (d_1 (tk h hC h1 (Or.inl ⟨j2, h2, rfl, rfl⟩) fun R hR => ?_)))
    unfold wp_X12_taken
    exact r_shelf_t h1 (d_1 (r_in_t (M := 5) (Nat.zero_le _) h2 (d_1 hR)))
/-! views -/
def cvI (x : Int32) : Nat := if x.toInt < 0 then 0 else if 99 < x.toInt then 99 else x.toInt.toNat
theorem cvI_le {x : Int32} : cvI x ≤ 99 := by
  unfold cvI
  by_cases h1 : x.toInt < 0
  · rw [if_pos h1]
    exact Nat.zero_le _
  · rw [if_neg h1]
    by_cases h2 : 99 < x.toInt
    · rw [if_pos h2]
      exact Nat.le_refl _
    · rw [if_neg h2]
      omega
theorem cvI_n {x : Int32} (h : ¬ x.toInt < 0) (h2 : ¬ 99 < x.toInt) : nI (cvI x) = x := by
  unfold cvI
  rw [if_neg h, if_neg h2]
  apply Int32.toInt_inj.mp
  rw [nI_toInt (by omega)]
  omega
theorem cv_c (x : Int32) : (if (0 : Int32) < (if x < (99 : Int32) then x else (99 : Int32)) then (if x < (99 : Int32) then x else (99 : Int32)) else (0 : Int32)) = nI (cvI x) := by
  have e99 : (99 : Int32).toInt = 99 := rfl
  have e0 : (0 : Int32).toInt = 0 := rfl
  by_cases h1 : x < (99 : Int32)
  · rw [if_pos h1]
    rw [Int32.lt_iff_toInt_lt, e99] at h1
    by_cases h2 : (0 : Int32) < x
    · rw [if_pos h2]
      rw [Int32.lt_iff_toInt_lt, e0] at h2
      exact (cvI_n (by omega) (by omega)).symm
    · rw [if_neg h2]
      rw [Int32.lt_iff_toInt_lt, e0] at h2
      by_cases h3 : x.toInt < 0
      · unfold cvI
        rw [if_pos h3]
        rfl
      · have h4 := cvI_n h3 (by omega)
        rw [h4]
        exact Int32.toInt_inj.mp (by omega)
  · rw [if_neg h1, if_pos (by decide)]
    rw [Int32.lt_iff_toInt_lt, e99] at h1
    unfold cvI
    rw [if_neg (by omega)]
    by_cases h2 : 99 < x.toInt
    · rw [if_pos h2]
      rfl
    · rw [if_neg h2]
      have e : x.toInt.toNat = 99 := by omega
      rw [e]
      rfl
theorem cv_r (x : Int32) : (¬ 0 ≤ lg_cmp x.toInt64 0 ∧ (0 : Int32) = nI (cvI x)) ∨ (0 ≤ lg_cmp x.toInt64 0 ∧ lg_cmp x.toInt64 99 ≤ 0 ∧ x.toInt64.toInt32 = nI (cvI x)) ∨ (0 ≤ lg_cmp x.toInt64 0 ∧ ¬ lg_cmp x.toInt64 99 ≤ 0 ∧ (99 : Int32) = nI (cvI x)) := by
  rw [lg_cmp_ge, lg_cmp_le, Int64.le_iff_toInt_le, Int64.le_iff_toInt_le, Int32.toInt_toInt64, Int32.toInt32_toInt64, show (0 : Int64).toInt = 0 from rfl, show (99 : Int64).toInt = 99 from rfl]
  by_cases h1 : x.toInt < 0
  · refine Or.inl ⟨by omega, ?_⟩
    unfold cvI
    rw [if_pos h1]
    rfl
  · by_cases h2 : 99 < x.toInt
    · refine Or.inr (Or.inr ⟨by omega, by omega, ?_⟩)
      unfold cvI
      rw [if_neg h1, if_pos h2]
      rfl
    · exact Or.inr (Or.inl ⟨by omega, by omega, (cvI_n h1 h2).symm⟩)
theorem Rel.viewsR {n : List Nat} {S T : St} {f g : Nat → Int32} {V' : Nat → Nat} (h : Rel n S T) (hf : NR f V' 200 99) (hg : NR g V' 200 99) : Rel n (sR S (gN S 0 8 + 1) f) (sR T 1 g) := by
  have hI := h.1
  obtain ⟨V, L, t, c, p, ⟨h1, h2, h3, h4, h5⟩, h6, h7, h8, h9, h10⟩ := h.2.2.2.1
  have hcc := hI.c
  refine h.upd (V := V') (L := L) (t := t) (c := c) (p := p) ⟨rfl, gA_sRn (by omega), rfl, gA_sRn (by omega), rfl, gA_sRn (by omega), rfl, rfl, gA_sRn (by omega), fun d hd => ⟨rfl, gA_sRn (by omega), rfl⟩⟩ ⟨rfl, rfl, gA_sRn (by omega), gA_sRn (by omega), rfl, fun j hj => ⟨rfl, ?_⟩⟩ ⟨rfl, rfl, rfl, rfl, gA_sRn (by decide), gA_sRn (by decide), fun d hd => gA_sRn (by omega), rfl⟩ hI h.2.1 h.2.2.1 ⟨⟨?_, ?_, h3, h4, fun j hj => ?_⟩, h6, ?_, ?_, ?_, h10⟩
  · have := (hI.2.1 9 j isW9 hj).1.1
    exact gA_sRn (by show gN S (9 + 3) j + 1 ≠ _; omega)
  · show NR (gA (sR S (gN S 0 8 + 1) f) (gN S 0 8 + 1)) V' 200 99
    rw [gA_sR]
    exact hf
  · show NR (gA (sR S (gN S 0 8 + 1) f) (gN S 0 8 + 2)) L 12 9
    rw [gA_sRn (by omega)]
    exact h2
  · show RC (gI S (gN S (gN S 0 8 + 3) j)) (gA (sR S (gN S 0 8 + 1) f) (gN S (gN S 0 8 + 3) j + 1)) (p j)
    rw [gA_sRn (by have := (hI.2.1 _ j hI.w (by have := h6.2.1; omega)).1.1; omega)]
    exact h5 j hj
  · rw [gA_sR]
    exact hg
  · rw [gA_sRn (by decide)]
    exact h8
  · rw [gA_sRn (by decide)]
    exact h9
/-- the views once i of the items x stand from b on -/
def aVs (V : Nat → Nat) (x : Nat → Int32) (b i : Nat) (z : Nat) : Nat := if b ≤ z ∧ z < b + i then cvI (x (z - b)) else V z
theorem aVs_0 {V : Nat → Nat} {x : Nat → Int32} {b : Nat} : aVs V x b 0 = V := by
  funext z
  exact if_neg (by omega)
theorem aVs_s {V : Nat → Nat} {x : Nat → Int32} {b i : Nat} : up1 (aVs V x b i) (b + i) (cvI (x i)) = aVs V x b (i + 1) := by
  funext z
  unfold aVs
  by_cases h : z = b + i
  · subst h
    rw [u1_s, if_pos (by omega), Nat.add_sub_cancel_left]
  · rw [u1_n h]
    by_cases h2 : b ≤ z ∧ z < b + i
    · rw [if_pos h2, if_pos (by omega)]
    · rw [if_neg h2, if_neg (by omega)]
theorem c_views_l {n : List Nat} {S : St} {V : Nat → Nat} {o it k j2 j3 j4 j5 : Nat} {a2 a3 a4 a5 : Int32} {K : Int32 → St → Prop} (hI : IC S) (ho : isSh n S o) (hit : gN S o 1 = it) (hi : isIt n S it) (hk : gN S it 0 = k) (hk40 : k ≤ 40) (h25 : j2 + j5 ≤ k) (h3 : j3 < 4) (h45 : j4 + j5 ≤ 50) (e2 : a2 = nI j2) (e3 : a3 = nI j3) (e4 : a4 = nI j4) (e5 : a5 = nI j5) (kk : ∀ y f, NR f (aVs V (fun j => gA S it (j2 + j)) (50 * j3 + j4) j5) 200 99 → K y (sR S (gN S 0 8 + 1) f)) : ∀ (m i : Nat) (f : Nat → Int32), i + m = j5 → NR f (aVs V (fun j => gA S it (j2 + j)) (50 * j3 + j4) i) 200 99 → wl_X11_views_89 n a2 a3 a4 a5 o K (m + 1) (nI i) (sR S (gN S 0 8 + 1) f)
  | 0, i, f, him, hf => by
    have e : j5 = i := by omega
    subst e
    rw [wl_X11_views_89]
    exact d_leT j5 j5 (Nat.le_refl _) (kk _ f hf) e5
  | m + 1, i, f, him, hf => by
    have hcc := hI.c
    have h59 := hi.1
    have ea : a4 + nI i = nI (j4 + i) := by
      rw [e4]
      exact nI_add j4 i
    have eb : a2 + nI i = nI (j2 + i) := by
      rw [e2]
      exact nI_add j2 i
    have ec : nI (j4 + i) = nI (j4 + i) := rfl
    rw [wl_X11_views_89, ea, e3]
    refine d_leF j5 i (by omega) (nm_r (show gN (sR S (gN S 0 8 + 1) f) 0 8 = gN S 0 8 from rfl) ⟨hI.w, c_vs ⟨ho, nm_r (show gN (sR S (gN S 0 8 + 1) f) o 1 = it from hit) ⟨hi, ?_⟩⟩⟩) e5
    rw [eb, nI_clamp (by omega), nI_clamp (by omega), show gN (sR S (gN S 0 8 + 1) f) it 0 = k from hk, gA_sRn (show it ≠ gN S 0 8 + 1 by omega), cv_c]
    refine ⟨vp_in_nI (by omega) (by omega), vp_in_nI (by omega) (by decide), nm_e (nm_r (nI_1 i) ?_)⟩
    rw [sA_R, gA_sR, sR_sR]
    refine c_views_l hI ho hit hi hk hk40 h25 h3 h45 e2 rfl e4 e5 kk m (i + 1) _ (by omega) ?_
    rw [← aVs_s]
    have e6 : 50 * j3 + (j4 + i) = 50 * j3 + j4 + i := by omega
    rw [e6]
    exact hf.set rfl cvI_le
theorem r_views_l {T : St} {V : Nat → Nat} {x : Nat → Int32} {s k j2 j3 j4 j5 : Nat} {a1 a2 a3 a4 a5 : Int32} {K : Int32 → St → Prop} (hx : ∀ j, j < k → gL T 13 (40 * s + j) = (x j).toInt64) (hs : s < 4) (hk40 : k ≤ 40) (h25 : j2 + j5 ≤ k) (h3 : j3 < 4) (h45 : j4 + j5 ≤ 50) (e1 : a1 = nI s) (e2 : a2 = nI j2) (e3 : a3 = nI j3) (e4 : a4 = nI j4) (e5 : a5 = nI j5) (kk : ∀ y g, NR g (aVs V (fun j => x (j2 + j)) (50 * j3 + j4) j5) 200 99 → K y (sR T 1 g)) : ∀ (m i : Nat) (g : Nat → Int32), i + m = j5 → NR g (aVs V (fun j => x (j2 + j)) (50 * j3 + j4) i) 200 99 → wl_X12_views_84 a1 a2 a3 a4 a5 K (m + 1) (nI i) (sR T 1 g)
  | 0, i, g, him, hg => by
    have e : j5 = i := by omega
    subst e
    rw [wl_X12_views_84]
    exact d_leT j5 j5 (Nat.le_refl _) (kk _ g hg) e5
  | m + 1, i, g, him, hg => by
    have ea : (40 : Int32) * a1 + a2 + nI i = nI (40 * s + (j2 + i)) := by
      rw [e1, e2]
      show nI 40 * nI s + nI j2 + nI i = _
      rw [pk_mul, nI_add, nI_add, Nat.add_assoc]
    have eb : (50 : Int32) * a3 + a4 + nI i = nI (50 * j3 + j4 + i) := by
      rw [e3, e4]
      show nI 50 * nI j3 + nI j4 + nI i = _
      rw [pk_mul, nI_add, nI_add]
    have next : ∀ v, v = nI (cvI (x (j2 + i))) → ∀ S26 : St, S26 = sA (sR T 1 g) 1 (50 * j3 + j4 + i) v → ∀ t27 : Int32, t27 = nI i + 1 → wl_X12_views_84 a1 a2 a3 a4 a5 K (m + 1) t27 S26 := by
      intro v hv
      refine nm_e (nm_r (nI_1 i) ?_)
      rw [sA_R, gA_sR, sR_sR]
      refine r_views_l hx hs hk40 h25 h3 h45 e1 e2 e3 e4 e5 kk m (i + 1) _ (by omega) ?_
      rw [← aVs_s]
      exact hg.set hv cvI_le
    rw [wl_X12_views_84, ea, eb, nI_clamp (by omega), nI_clamp (by omega), show gL (sR T 1 g) 13 (40 * s + (j2 + i)) = (x (j2 + i)).toInt64 from hx _ (by omega)]
    refine d_leF j5 i (by omega) ⟨vp_in_nI (by omega) (by decide), nm_e ?_⟩ e5
    rcases cv_r (x (j2 + i)) with ⟨c1, e⟩ | ⟨c1, c2, e⟩ | ⟨c1, c2, e⟩
    · exact br_f c1 ⟨vp_in_nI (by omega) (by decide), next _ e⟩
    · exact br_t c1 (br_t c2 ⟨vp_in_nI (by omega) (by decide), next _ e⟩)
    · exact br_t c1 (br_f c2 ⟨vp_in_nI (by omega) (by decide), next _ e⟩)
theorem st_views : step_views Rel := by
  intro n S T a1 a2 a3 a4 a5 hn h
  have hw := h.1.w
  have h0 := h.2.2.1
  obtain ⟨V, L, t, c, p, hC⟩ := h.2.2.2.1
  have hc3 : gI S (gN S 0 8) 3 = nI c := hC.1.2.2.1
  have ht4 : gI S (gN S 0 8) 4 = nI t := hC.1.2.2.2.1
  have hc6 : c ≤ 6 := hC.2.1.2.1
  have ht5 : t ≤ 50 := hC.2.1.1
  have hr1 : gA T 3 1 = nI c := hC.2.2.2.2.1.2.1
  have hr0 : gA T 3 0 = nI t := hC.2.2.2.2.1.1
  unfold wp_X11_views
  rcases rng a1 0 4 (by omega) with b | ⟨j1, g1, h1, rfl⟩
  · exact c_sheet_b b (d_0 ((by unfold wp_X12_views; exact r_shelf_b b (d_0 (⟨rfl, h⟩)))))
  rcases rng a3 0 4 (by omega) with b | ⟨j3, g3, h3, rfl⟩
  · exact c_sheet_t h1 (d_1 (c_place_b b (d_0 ((by unfold wp_X12_views; exact r_shelf_t h1 (d_1 (r_place_b b (d_0 (⟨rfl, h⟩)))))))))
  rcases rng a4 0 50 (by omega) with b | ⟨j4, g4, h4, rfl⟩
  · exact c_sheet_t h1 (d_1 (c_place_t h3 (d_1 (c_day_b b (d_0 ((by unfold wp_X12_views; exact r_shelf_t h1 (d_1 (r_place_t h3 (d_1 (r_day_b b (d_0 (⟨rfl, h⟩)))))))))))))
  have hS := h.2.2.2.2.2.2.2.1
  have e50 : (50 : Int32) - nI j4 = nI (50 - j4) := pk_sub (a := 50) (by omega)
  have kb : ∀ R : Int32 → St → Prop, OutR a5 0 (50 - j4 + 1) → R (-1) T → wp_X12_views (nI j1) a2 (nI j3) (nI j4) a5 T R := by
    intro R b k
    unfold wp_X12_views
    refine r_shelf_t h1 (d_1 (r_place_t h3 (d_1 (r_day_t h4 (d_1 ?_)))))
    rcases rng a5 0 51 (by omega) with b2 | ⟨j5, g5, h5, rfl⟩
    · exact r_in_b (M := 50) b2 (d_0 k)
    · refine r_in_t (M := 50) (Nat.zero_le _) h5 (d_1 ?_)
      rw [nI_add]
      unfold OutR at b
      rw [nI_toInt (by omega)] at b
      exact d_leF (j4 + j5) 50 (by omega) k
  have kg : ∀ (R : Int32 → St → Prop) (j5 : Nat), j5 ≤ 50 - j4 → wp_X12_lacksSort (nI j1) (0 : Int32) T (fun r15 S14 => ((r15 = 0 → ((a2 < 0 → R (-12 : Int32) S14) ∧ (¬ a2 < 0 → (vp_in (nI j1) 4 ∧ ((a2 ≤ ((gA S14 12 (nI j1).toNatClampNeg) - nI j5) → (∃ m_84 : Nat, wl_X12_views_84 (nI j1) a2 (nI j3) (nI j4) (nI j5) (fun e7_34 S35 => R (nI j5) S35) m_84 (0 : Int32) S14)) ∧ (¬ a2 ≤ ((gA S14 12 (nI j1).toNatClampNeg) - nI j5) → R (-12 : Int32) S14)))))) ∧ (¬ r15 = 0 → R r15 S14))) → wp_X12_views (nI j1) a2 (nI j3) (nI j4) (nI j5) T R := by
    intro R j5 h5 k
    unfold wp_X12_views
    refine r_shelf_t h1 (d_1 (r_place_t h3 (d_1 (r_day_t h4 (d_1 (r_in_t (M := 50) (Nat.zero_le _) (by omega) (d_1 ?_)))))))
    rw [nI_add]
    exact d_leT (j4 + j5) 50 (by omega) k
  refine c_sheet_t h1 (d_1 (c_place_t h3 (d_1 (c_day_t h4 (d_1 (?_))))))
  rw [e50]
  rcases rng a5 0 (50 - j4 + 1) (by omega) with b | ⟨j5, g5, h5, rfl⟩
  · exact g2_b (M := 50 - j4) b (kb _ b ⟨rfl, h⟩)
  refine g2_t (M := 50 - j4) (Nat.zero_le _) h5 ?_
  rw [nI_clamp (by omega)]
  refine ⟨vp_in_nI (by omega) (by decide), nm_e ?_⟩
  rcases hS.1 j1 h1 with ⟨e0, e1⟩ | ⟨e0, hok, so, k, ⟨q1, q2, q3, q4⟩, q5, q6, q7⟩
  · refine br_t e0 (kg _ j5 (by omega) ?_)
    unfold wp_X12_lacksSort
    rw [nI_clamp (by omega), e1]
    exact ⟨vp_in_nI (by omega) (by decide), br_f (mI_nle (by decide) (by decide) 0 (by decide)) (br_f (by decide) ⟨rfl, h⟩)⟩
  · refine br_f e0 ⟨hok.1, ?_⟩
    rw [q3]
    refine pk_eq so 0 (fun e => ?_) (fun e => ?_)
    · have kh : ∀ R : Int32 → St → Prop, ((a2 < 0 → R (-12 : Int32) T) ∧ (¬ a2 < 0 → ((a2 ≤ (nI k - nI j5) → (∃ m_84 : Nat, wl_X12_views_84 (nI j1) a2 (nI j3) (nI j4) (nI j5) (fun e7_34 S35 => R (nI j5) S35) m_84 (0 : Int32) T)) ∧ (¬ a2 ≤ (nI k - nI j5) → R (-12 : Int32) T)))) → wp_X12_views (nI j1) a2 (nI j3) (nI j4) (nI j5) T R := by
        intro R hR
        refine kg R j5 (by omega) ?_
        unfold wp_X12_lacksSort
        rw [nI_clamp (by omega), q5]
        refine ⟨vp_in_nI (by omega) (by decide), br_t (nI_pos' (by omega)) ⟨vp_in_nI (by omega) (by decide), d_eqT so 0 e (br_t rfl ⟨hR.1, fun z => ⟨vp_in_nI (by omega) (by decide), ?_⟩⟩)⟩⟩
        rw [q6]
        exact hR.2 z
      refine ⟨fun z => kh _ (br_t z ⟨rfl, h⟩), fun z => nm_e ⟨hok.2.1, ?_⟩⟩
      rw [q4]
      refine ⟨fun z2 => ?_, fun z2 => kh _ (br_f z (br_f z2 ⟨rfl, h⟩))⟩
      obtain ⟨j2, hj2, rfl⟩ := nI_of z
      have z3 := z2
      rw [Int32.le_iff_toInt_le, nI_toInt hj2] at z3
      have z4 : (nI k - nI j5).toInt = (k : Int) - j5 := pk_sub_toInt (by omega) (by omega)
      have h25 : j2 + j5 ≤ k := by
        have z5 : (Int32.ofNat k - nI j5).toInt = (k : Int) - j5 := z4
        omega
      refine ⟨j5 + 1, ?_⟩
      have hcl := c_views_l (n := n) (S := S) (V := V) (j2 := j2) (j3 := j3) (j4 := j4) (j5 := j5) (o := gN S 4 j1) (it := gN S (gN S 4 j1) 1) (k := k) (K := fun _ S29 => wp_X12_views (nI j1) (nI j2) (nI j3) (nI j4) (nI j5) T (fun r1 T1 => nI j5 = r1 ∧ Rel n S29 T1)) h.1 hok.1 rfl hok.2.1 q4 q2 h25 h3 (by omega) rfl rfl rfl rfl (fun y f hf => kh _ (br_f z (br_t z2 ⟨j5 + 1, ?_⟩))) j5 0 (gA S (gN S 0 8 + 1)) (by omega) (by rw [aVs_0]; exact hC.1.1)
      · rw [sR_self] at hcl
        exact hcl
      · have hrl := r_views_l (T := T) (V := V) (j2 := j2) (j3 := j3) (j4 := j4) (j5 := j5) (x := gA S (gN S (gN S 4 j1) 1)) (s := j1) (k := k) (K := fun _ T29 => nI j5 = nI j5 ∧ Rel n (sR S (gN S 0 8 + 1) f) T29) q7 h1 q2 h25 h3 (by omega) rfl rfl rfl rfl rfl (fun y2 g hg => ⟨rfl, h.viewsR hf hg⟩) j5 0 (gA T 1) (by omega) (by rw [aVs_0]; exact hC.2.2.1)
        rw [sR_self] at hrl
        exact hrl
    · refine kg _ j5 (by omega) ?_
      unfold wp_X12_lacksSort
      rw [nI_clamp (by omega), q5]
      exact ⟨vp_in_nI (by omega) (by decide), br_t (nI_pos' (by omega)) ⟨vp_in_nI (by omega) (by decide), d_eqF so 0 e (br_f (by decide) ⟨rfl, h⟩)⟩⟩
