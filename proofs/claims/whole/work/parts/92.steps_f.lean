/-! STEPS: cut, lay, drop -/
theorem RS.one {r : Nat → Int32} {b : Nat} {q : AP} {v : Int32} (h : RS r b q) (hq : q.2.1 ≤ 16) (hb : 2 ≤ b) : RS (up1 r 1 v) b q := h.eq hq fun x hx => u1_n (by omega)
theorem st_cut : step_cut Rel := by
  intro n S T a1 a2 hn h
  have hw := h.1.w
  have h0 := h.2.2.1
  obtain ⟨V, L, t, c, p, hC⟩ := h.2.2.2.1
  have hc3 : gI S (gN S 0 8) 3 = nI c := hC.1.2.2.1
  have ht4 : gI S (gN S 0 8) 4 = nI t := hC.1.2.2.2.1
  have hc6 : c ≤ 6 := hC.2.1.2.1
  have ht5 : t ≤ 50 := hC.2.1.1
  have hr1 : gA T 3 1 = nI c := hC.2.2.2.2.1.2.1
  have hr0 : gA T 3 0 = nI t := hC.2.2.2.2.1.1
  unfold wp_X11_cut
  rcases rng a1 0 c (by omega) with b | ⟨j1, g1, h1, rfl⟩
  · exact c_pane_b hw hc3 hc6 b (d_0 ((by unfold wp_X12_cut; exact r_pane_b hr1 hc6 b (d_0 (⟨rfl, h⟩)))))
  have hP1 := (h.1.2.1 _ j1 hw (by omega)).1
  have hQ1 := (h.1.2.1 _ j1 hw (by omega)).2
  have hrc1 := hC.1.2.2.2.2 j1 h1
  have hv1 := hC.2.1.2.2 j1 h1
  have hat1 : At T 0 j1 (0 + 2 + 19 * j1) := ⟨h0, rfl, by omega⟩
  have hrs1 := hC.2.2.2.2.1.2.2 j1 h1
  refine c_pane_t hw hc3 hc6 h1 (d_1 (?_))
  by_cases ha : (1 : Int32) ≤ a2
  · have e2 : ∃ k, 1 ≤ k ∧ k < 2 ^ 31 ∧ a2 = nI k := by
      have hn : ¬ a2 < 0 := by
        rw [Int32.lt_iff_toInt_lt]
        rw [Int32.le_iff_toInt_le] at ha
        have z1 : (1 : Int32).toInt = 1 := rfl
        have z0 : (0 : Int32).toInt = 0 := rfl
        omega
      obtain ⟨k, hk, rfl⟩ := nI_of hn
      have := (nI_leI (a := 1) (b := k) (by decide) hk).mp ha
      exact ⟨k, this, hk, rfl⟩
    obtain ⟨k, hk1, hk31, rfl⟩ := e2
    refine br_t ha ?_
    rw [nI_clamp (by omega)]
    refine nm_e ⟨hw, vp_in_nI (by omega) (by decide), nm_e ⟨hP1, ?_⟩⟩
    rw [hrc1.2.1]
    have hn16 := hv1.2.2.1
    refine pk_lt k (p j1).2.1 (fun hk => c_full hw hc3 hc6 (fun hc => d_0 (nm_e ⟨hw, c_add (k := 0) (m := 1) h.1 h.2.1 hc3 hc rfl rfl (by decide) fun i a hr => ?_⟩)) (fun hc => d_1 ?_)) (fun hk => ?_)
    · have g := (h.1.pn hc).1
      have gj := hP1.1
      have hcc := h.1.c
      have hPc := h.1.pn hc
      have hne : gN S (gN S 0 8 + 3) j1 ≠ gN S (gN S 0 8 + 3) c := fun e => by have := (h.1.2.2 _ j1 _ c hw hw (by omega) hc e).2; omega
      have hvA := hv1.cutA hk1 hk
      have hvB := hv1.cutB hk
      have hD2 : DF S (sI (sP S (gN S (gN S 0 8 + 3) c) i a) (gN S 0 8) 3 (nI (c + 1))) V L t := ((DF.refl h hC).pane h.1 hc hr).cnt h.1
      have hP2 : PR S (sI (sP S (gN S (gN S 0 8 + 3) c) i a) (gN S 0 8) 3 (nI (c + 1))) (c + 1) (fun x => if x = c then (0, 1, 4, fun _ => 500) else p x) := PR.wI (PR.pane (c := c) (p := p) (c' := c + 1) hC.1.2.2.2.2 h.1 hc (by omega) hr fun x hx => by
        by_cases e : x = c
        · exact Or.inl ⟨e, if_pos e⟩
        · exact Or.inr ⟨e, by omega, if_neg e⟩) h.1 (by omega)
      have hrj : RC (gI (sI (sP S (gN S (gN S 0 8 + 3) c) i a) (gN S 0 8) 3 (nI (c + 1))) (gN S (gN S 0 8 + 3) j1)) (gA (sI (sP S (gN S (gN S 0 8 + 3) c) i a) (gN S 0 8) 3 (nI (c + 1))) (gN S (gN S 0 8 + 3) j1 + 1)) (p j1) := by
        have := hP2 j1 (by omega)
        simp only [] at this
        rw [if_neg (by omega)] at this
        exact this
      obtain ⟨-, -, -, fc, hf, hi1, -⟩ := hr
      refine ⟨hPc, c_behind (k := k) (p := p j1) hPc hP1 hne hrj hv1 rfl hk hf (by rw [gI_sIn (by omega), gI_sP]; exact hi1) fun i2 a2 hr2 => nm_e ?_⟩
      have hD3 := hD2.pane h.1 hc hr2
      have hP3 : PR S (sP (sI (sP S (gN S (gN S 0 8 + 3) c) i a) (gN S 0 8) 3 (nI (c + 1))) (gN S (gN S 0 8 + 3) c) i2 a2) (c + 1) (fun x => if x = c then aCutB k (p j1) else p x) := hP2.pane h.1 hc (by omega) hr2 fun x hx => by
        by_cases e : x = c
        · exact Or.inl ⟨e, if_pos e⟩
        · refine Or.inr ⟨e, by omega, ?_⟩
          rw [if_neg e, if_neg e]
      have hrj3 := hP3 j1 (by omega)
      simp only [] at hrj3
      rw [if_neg (by omega)] at hrj3
      rw [sI_P]
      obtain ⟨q1, q2, q3, fc2, q4, q5, q6⟩ := hrj3
      have hr4 : RC (up1 (gI (sP (sI (sP S (gN S (gN S 0 8 + 3) c) i a) (gN S 0 8) 3 (nI (c + 1))) (gN S (gN S 0 8 + 3) c) i2 a2) (gN S (gN S 0 8 + 3) j1)) 3 (nI k)) (gA (sP (sI (sP S (gN S (gN S 0 8 + 3) c) i a) (gN S 0 8) 3 (nI (c + 1))) (gN S (gN S 0 8 + 3) c) i2 a2) (gN S (gN S 0 8 + 3) j1 + 1)) (aCutA k (p j1)) := ⟨by rw [u1_n (by decide)]; exact q1, u1_s, by rw [u1_n (by decide)]; exact q3, fc2, q4, by rw [u1_n (by decide)]; exact q5, fun x hx => q6 x (by have hx' : x < k := hx; omega)⟩
      have hD4 := hD3.pane h.1 (j := j1) (by omega) hr4
      have hP4 := PR.pane (c' := c + 1) (p' := fun x => if x = j1 then aCutA k (p j1) else if x = c then aCutB k (p j1) else p x) hP3 h.1 (j := j1) (by omega) (by omega) hr4 fun x hx => by
        by_cases e : x = j1
        · exact Or.inl ⟨e, if_pos e⟩
        · exact Or.inr ⟨e, hx, if_neg e⟩
      refine nm_e ⟨hw, ?_⟩
      have h34 : ∀ i4 a4, gI (sP (sP (sI (sP S (gN S (gN S 0 8 + 3) c) i a) (gN S 0 8) 3 (nI (c + 1))) (gN S (gN S 0 8 + 3) c) i2 a2) (gN S (gN S 0 8 + 3) j1) i4 a4) (gN S 0 8) 3 = nI (c + 1) := by
        intro i4 a4
        rw [gI_sPn (by omega), gI_sPn (by omega)]
        exact gI_sIs
      rw [show ∀ i4 a4, gN (sP (sP (sI (sP S (gN S (gN S 0 8 + 3) c) i a) (gN S 0 8) 3 (nI (c + 1))) (gN S (gN S 0 8 + 3) c) i2 a2) (gN S (gN S 0 8 + 3) j1) i4 a4) 0 8 = gN S 0 8 from fun _ _ => rfl, h34, e_m1]
      unfold wp_X12_cut
      refine r_pane_t hr1 hc6 h1 (d_1 (?_))
      refine br_t ha (r_its hat1 rfl (k := 1) rfl (by decide) ?_)
      rw [hrs1.2.1, e_1, hr1]
      refine d_ltT k (p j1).2.1 hk ⟨i_1 (by decide) (by decide), d_eqF c 6 (by omega) ⟨i_1 (by decide) (by decide), r_cuts (p2 := c) (b2 := 0 + 2 + 19 * c) hat1 ⟨h0, rfl, by omega⟩ (by omega) rfl rfl rfl hrs1 hv1 hk fun r' s1 s2 ho => ⟨i_1 (by decide) (by decide), i_1 (by decide) (by decide), nm_e ⟨i_1 (by decide) (by decide), ?_⟩⟩⟩⟩
      rw [sA_R, sR_sR, gA_sR, gA_sR, ho 1 (by omega) (by omega), hr1, nI_1, u1_s, e_m1]
      refine ⟨rfl, h.fin hD4 hP4 (h34 _ _) ⟨ht5, by omega, fun x hx => ?_⟩ ⟨rfl, rfl, rfl, rfl, gA_sRn (by decide), gA_sRn (by decide), fun d hd => gA_sRn (by omega), rfl⟩ h0 (by rw [gA_sRn (by decide)]; exact hC.2.2.1) (by rw [gA_sRn (by decide)]; exact hC.2.2.2.1) ?_ rfl⟩
      · show VPa (if x = j1 then _ else if x = c then _ else p x)
        by_cases e : x = j1
        · rw [if_pos e]
          exact hvA
        · rw [if_neg e]
          by_cases e' : x = c
          · rw [if_pos e']
            exact hvB
          · rw [if_neg e']
            exact hC.2.1.2.2 x (by omega)
      · rw [gA_sR]
        refine ⟨?_, u1_s (f := r') (k := 1), fun x hx => ?_⟩
        · rw [u1_n (by omega), ho _ (by omega) (by omega)]
          exact hr0
        · show RS (up1 r' 1 (nI (c + 1))) (0 + 2 + 19 * x) (if x = j1 then _ else if x = c then _ else p x)
          by_cases e : x = j1
          · rw [if_pos e, e]
            exact s1.one hvA.2.2.1 (by omega)
          · rw [if_neg e]
            by_cases e' : x = c
            · rw [if_pos e', e']
              exact s2.one hvB.2.2.1 (by omega)
            · rw [if_neg e']
              have hxp := hC.2.1.2.2 x (by omega)
              exact (hC.2.2.2.2.1.2.2 x (by omega)).eq hxp.2.2.1 fun y hy => by rw [u1_n (by omega)]; exact ho _ (by omega) (by omega)
    · unfold wp_X12_cut
      refine r_pane_t hr1 hc6 h1 (d_1 (?_))
      refine br_t ha (r_its hat1 rfl (k := 1) rfl (by decide) ?_)
      rw [hrs1.2.1, e_1, hr1]
      exact d_ltT k (p j1).2.1 hk ⟨i_1 (by decide) (by decide), d_eqT c 6 hc ⟨rfl, h⟩⟩
    · unfold wp_X12_cut
      refine r_pane_t hr1 hc6 h1 (d_1 (?_))
      refine br_t ha (r_its hat1 rfl (k := 1) rfl (by decide) ?_)
      rw [hrs1.2.1]
      exact d_ltF k (p j1).2.1 hk ⟨rfl, h⟩
  · refine br_f ha ?_
    unfold wp_X12_cut
    refine r_pane_t hr1 hc6 h1 (d_1 (?_))
    exact br_f ha ⟨rfl, h⟩
/-- the row of panes, written at once -/
def sW (S : St) (c : Nat) (f : Nat → Nat) : St := (S.1, S.2.1, fun c' => if c' = c then f else S.2.2.1 c', S.2.2.2)
theorem gN_sW {S : St} {c : Nat} {f : Nat → Nat} : gN (sW S c f) c = f := if_pos rfl
theorem gN_sWn {S : St} {c c' : Nat} {f : Nat → Nat} (h : c' ≠ c) : gN (sW S c f) c' = gN S c' := if_neg h
theorem sN_sW {S : St} {c k v : Nat} {f : Nat → Nat} : sN (sW S c f) c k v = sW S c (up1 f k v) := by
  refine Prod.ext rfl (Prod.ext rfl (Prod.ext (funext fun d => ?_) rfl))
  show (if d = c then up1 (if c = c then f else S.2.2.1 c) k v else if d = c then f else S.2.2.1 d) = if d = c then up1 f k v else S.2.2.1 d
  rw [if_pos rfl]
  by_cases h : d = c
  · rw [if_pos h, if_pos h]
  · rw [if_neg h, if_neg h, if_neg h]
theorem sW_self {S : St} {c : Nat} : sW S c (gN S c) = S := by
  refine Prod.ext rfl (Prod.ext rfl (Prod.ext (funext fun d => ?_) rfl))
  show (if d = c then gN S c else S.2.2.1 d) = S.2.2.1 d
  by_cases h : d = c
  · subst h
    exact if_pos rfl
  · exact if_neg h
/-- where the pane at place x stood before pane j of c went behind -/
def aSig (j c x : Nat) : Nat := if x = c - 1 then j else if j ≤ x ∧ x < c - 1 then x + 1 else x
def rmS (S : St) (j c : Nat) : St := sW (sI S (gN S 0 8) 3 (nI (c - 1))) (gN S 0 8 + 3) (fun x => gN S (gN S 0 8 + 3) (aSig j c x))
theorem c_rem_l {S : St} {w j c o2 : Nat} {f : Nat → Nat} {K : Int32 → St → Prop} (hw : isW w) (h3 : gI S w 3 = nI (c - 1)) (hj : j < c) (hc : c ≤ 6) (hP : ∀ x, x < 6 → isPn (f x)) (k : ∀ y, K y (sW S (w + 3) (fun x => if j ≤ x ∧ x < c - 1 then f (x + 1) else f x))) : ∀ (m i : Nat), i + m = c - 1 → j ≤ i → wl_X10_removePane_19 w K (m + 1) (nI i) (sW S (w + 3) (fun x => if j ≤ x ∧ x < i then f (x + 1) else f x))
  | 0, i, hi, hji => by
    have e : i = c - 1 := by omega
    rw [wl_X10_removePane_19, show gI (sW S (w + 3) (fun x => if j ≤ x ∧ x < i then f (x + 1) else f x)) w 3 = nI (c - 1) from h3]
    subst e
    exact d_leT (c - 1) (c - 1) (Nat.le_refl _) (k _)
  | m + 1, i, hi, hji => by
    rw [wl_X10_removePane_19, show gI (sW S (w + 3) (fun x => if j ≤ x ∧ x < i then f (x + 1) else f x)) w 3 = nI (c - 1) from h3, gN_sW]
    have e1 : nI i + (1 : Int32) = nI (i + 1) := nI_1 i
    rw [e1, nI_clamp (by omega), nI_clamp (by omega), if_neg (by omega)]
    refine d_leF (c - 1) i (by omega) ⟨vp_in_nI (by omega) (by decide), nm_e ⟨hP _ (by omega), vp_in_nI (by omega) (by decide), nm_e (nm_e ?_)⟩⟩
    rw [sN_sW]
    have e : (up1 (fun x => if j ≤ x ∧ x < i then f (x + 1) else f x) i (f (i + 1))) = fun x => if j ≤ x ∧ x < i + 1 then f (x + 1) else f x := by
      funext x
      by_cases h : x = i
      · subst h
        rw [u1_s, if_pos (by omega)]
      · rw [u1_n h]
        by_cases h2 : j ≤ x ∧ x < i
        · rw [if_pos h2, if_pos (by omega)]
        · rw [if_neg h2, if_neg (by omega)]
    rw [e]
    exact c_rem_l (o2 := o2) hw h3 hj hc hP k m (i + 1) (by omega) (by omega)
theorem c_remove {S : St} {j c : Nat} {x : Int32} {Q : St → Prop} (hI : IC S) (h3 : gI S (gN S 0 8) 3 = nI c) (hj : j < c) (hc : c ≤ 6) (hx : x = nI j) (q : Q (rmS S j c)) : wp_X10_removePane (gN S 0 8) x S Q := by
  have hw := hI.w
  subst hx
  unfold wp_X10_removePane
  rw [h3, show nI c - (1 : Int32) = nI (c - 1) from pk_sub (b := 1) (by omega), nI_clamp (by omega)]
  refine ⟨hw, vp_in_nI (by omega) (by decide), nm_e ⟨hI.pn (by omega), nm_e ⟨c - 1 - j + 1, ?_⟩⟩⟩
  have e : sI S (gN S 0 8) 3 (nI (c - 1)) = sW (sI S (gN S 0 8) 3 (nI (c - 1))) (gN S 0 8 + 3) (fun x => if j ≤ x ∧ x < j then gN S (gN S 0 8 + 3) (x + 1) else gN S (gN S 0 8 + 3) x) := by
    have e2 : (fun x => if j ≤ x ∧ x < j then gN S (gN S 0 8 + 3) (x + 1) else gN S (gN S 0 8 + 3) x) = gN (sI S (gN S 0 8) 3 (nI (c - 1))) (gN S 0 8 + 3) := by
      funext x
      rw [if_neg (by omega)]
      rfl
    rw [e2, sW_self]
  rw [e]
  refine c_rem_l (o2 := 0) (c := c) (f := gN S (gN S 0 8 + 3)) hw gI_sIs hj hc (fun x hx => hI.pn hx) (fun y => ?_) (c - 1 - j) j (by omega) (Nat.le_refl _)
  rw [show gI (sW (sI S (gN S 0 8) 3 (nI (c - 1))) (gN S 0 8 + 3) (fun x => if j ≤ x ∧ x < c - 1 then gN S (gN S 0 8 + 3) (x + 1) else gN S (gN S 0 8 + 3) x)) (gN S 0 8) 3 = nI (c - 1) from gI_sIs, nI_clamp (by omega)]
  refine ⟨vp_in_nI (by omega) (by decide), nm_e ?_⟩
  rw [sN_sW]
  have e3 : (up1 (fun x => if j ≤ x ∧ x < c - 1 then gN S (gN S 0 8 + 3) (x + 1) else gN S (gN S 0 8 + 3) x) (c - 1) (gN S (gN S 0 8 + 3) j)) = fun x => gN S (gN S 0 8 + 3) (aSig j c x) := by
    funext x
    unfold aSig
    by_cases h : x = c - 1
    · subst h
      rw [u1_s, if_pos rfl]
    · rw [u1_n h, if_neg h]
      by_cases h2 : j ≤ x ∧ x < c - 1
      · rw [if_pos h2, if_pos h2]
      · rw [if_neg h2, if_neg h2]
  rw [e3]
  exact q
theorem aSig_lt {j c x : Nat} (hj : j < c) (hc : c ≤ 6) (hx : x < 6) : aSig j c x < 6 := by
  unfold aSig
  by_cases h : x = c - 1
  · rw [if_pos h]
    omega
  · rw [if_neg h]
    by_cases h2 : j ≤ x ∧ x < c - 1
    · rw [if_pos h2]
      omega
    · rw [if_neg h2]
      exact hx
theorem aSig_inj {j c x y : Nat} (hj : j < c) (hc : c ≤ 6) (h : aSig j c x = aSig j c y) : x = y := by
  unfold aSig at h
  by_cases h1 : x = c - 1 <;> by_cases h2 : y = c - 1
  · omega
  · rw [if_pos h1, if_neg h2] at h
    by_cases h3 : j ≤ y ∧ y < c - 1
    · rw [if_pos h3] at h
      omega
    · rw [if_neg h3] at h
      omega
  · rw [if_neg h1, if_pos h2] at h
    by_cases h3 : j ≤ x ∧ x < c - 1
    · rw [if_pos h3] at h
      omega
    · rw [if_neg h3] at h
      omega
  · rw [if_neg h1, if_neg h2] at h
    by_cases h3 : j ≤ x ∧ x < c - 1 <;> by_cases h4 : j ≤ y ∧ y < c - 1
    · rw [if_pos h3, if_pos h4] at h
      omega
    · rw [if_pos h3, if_neg h4] at h
      omega
    · rw [if_neg h3, if_pos h4] at h
      omega
    · rw [if_neg h3, if_neg h4] at h
      exact h
theorem Rel.remove {n : List Nat} {S T : St} {V L : Nat → Nat} {t c j : Nat} {p : Nat → AP} {r : Nat → Int32} (h : Rel n S T) (hC : Cur S T V L t c p) (hj : j < c) (hr : ∀ x, r x = aGone (gA T 3) j c x) : Rel n (rmS S j c) (sR T 3 r) := by
  have hI := h.1
  obtain ⟨⟨c1, c2, c3, c4, c5⟩, h6, h7, h8, h9, h10⟩ := hC
  have hc6 := h6.2.1
  have hcc : 13 ≤ gN S 0 8 ∧ gN S 0 8 < 21 := by rcases hI.c with e | e <;> rw [e] <;> decide
  have hg0 : gN (rmS S j c) 0 8 = gN S 0 8 := by
    unfold rmS
    rw [gN_sWn (by omega)]
    rfl
  have hg : ∀ w x, isW w → x < 6 → ∃ y, y < 6 ∧ gN (rmS S j c) (w + 3) x = gN S (w + 3) y ∧ y = (if w = gN S 0 8 then aSig j c x else x) := by
    intro w x hw hx
    unfold rmS
    by_cases e : w = gN S 0 8
    · subst e
      rw [gN_sW, if_pos rfl]
      exact ⟨_, aSig_lt hj hc6 hx, rfl, rfl⟩
    · rw [gN_sWn (by omega), if_neg e]
      exact ⟨x, hx, rfl, rfl⟩
  have hIC : IC (rmS S j c) := by
    refine ⟨?_, fun w x hw hx => ?_, fun w x w' x' hw hw' hx hx' e => ?_⟩
    · unfold rmS
      rw [gN_sWn (by omega)]
      exact hI.1
    · obtain ⟨y, hy, e, -⟩ := hg w x hw hx
      rw [e]
      exact hI.2.1 w y hw hy
    · obtain ⟨y, hy, e1, e2⟩ := hg w x hw hx
      obtain ⟨y', hy', e1', e2'⟩ := hg w' x' hw' hx'
      rw [e1, e1'] at e
      obtain ⟨rfl, e3⟩ := hI.2.2 w y w' y' hw hw' hy hy' e
      refine ⟨rfl, ?_⟩
      rw [e2, e2'] at e3
      by_cases ew : w = gN S 0 8
      · rw [if_pos ew, if_pos ew] at e3
        exact aSig_inj hj hc6 e3
      · rw [if_neg ew, if_neg ew] at e3
        exact e3
  have hOS : OS S (rmS S j c) := (OS_I (k := 3) (v := nI (c - 1)) hcc.1 hcc.2).trans ⟨rfl, rfl, rfl, rfl, gN_sWn (by omega), rfl, gN_sWn (by omega), rfl, rfl, fun d hd => ⟨rfl, rfl, gN_sWn (by omega)⟩⟩
  have hKM : KM S (rmS S j c) := (KM_I (k := 3) (v := nI (c - 1)) hI hcc.1 hcc.2).trans ⟨rfl, rfl, rfl, rfl, gN_sWn (by omega), fun x hx => ⟨rfl, rfl⟩⟩
  have hFC : FC (rmS S j c) := FC_I (k := 3) (v := nI (c - 1)) h.2.1 hcc.2
  have hpe : ∀ x, x < c - 1 → gN (rmS S j c) (gN S 0 8 + 3) x = gN S (gN S 0 8 + 3) (if x < j then x else x + 1) := by
    intro x hx
    unfold rmS aSig
    rw [gN_sW]
    rw [if_neg (by omega)]
    by_cases e : x < j
    · rw [if_pos e, if_neg (by omega)]
    · rw [if_neg e, if_pos (by omega)]
  refine h.upd (V := V) (L := L) (t := t) (c := c - 1) (p := fun x => p (if x < j then x else x + 1)) hOS hKM ⟨rfl, rfl, rfl, rfl, gA_sRn (by decide), gA_sRn (by decide), fun d hd => gA_sRn (by omega), rfl⟩ hIC hFC h.2.2.1 ⟨⟨?_, ?_, ?_, ?_, fun x hx => ?_⟩, ⟨h6.1, by omega, fun x hx => ?_⟩, ?_, ?_, ⟨?_, ?_, fun x hx => ?_⟩, ?_⟩
  · rw [hg0]
    exact c1
  · rw [hg0]
    exact c2
  · rw [hg0]
    exact gI_sIs
  · rw [hg0]
    exact (gI_sIk (by decide)).trans c4
  · rw [hg0, hpe x hx]
    have hlt : (if x < j then x else x + 1) < c := by
      by_cases e : x < j
      · rw [if_pos e]
        omega
      · rw [if_neg e]
        omega
    have g := (hI.pn (j := if x < j then x else x + 1) (by omega)).1
    show RC (gI (sI S (gN S 0 8) 3 (nI (c - 1))) _) (gA S _) _
    rw [gI_sIn (by omega)]
    exact c5 _ hlt
  · show VPa (p (if x < j then x else x + 1))
    by_cases e : x < j
    · rw [if_pos e]
      exact h6.2.2 x (by omega)
    · rw [if_neg e]
      exact h6.2.2 (x + 1) (by omega)
  · rw [gA_sRn (by decide)]
    exact h7
  · rw [gA_sRn (by decide)]
    exact h8
  · rw [gA_sR, hr]
    unfold aGone
    rw [if_neg (by omega), if_neg (by omega)]
    exact h9.1
  · rw [gA_sR, hr]
    unfold aGone
    rw [if_pos rfl]
  · rw [gA_sR]
    show RS r (0 + 2 + 19 * x) (p (if x < j then x else x + 1))
    by_cases e : x < j
    · rw [if_pos e]
      refine (h9.2.2 x (by omega)).eq (h6.2.2 x (by omega)).2.2.1 fun y hy => ?_
      rw [hr]
      unfold aGone
      rw [if_neg (by omega), if_neg (by omega)]
    · rw [if_neg e]
      refine (h9.2.2 (x + 1) (by omega)).eq (h6.2.2 (x + 1) (by omega)).2.2.1 fun y hy => ?_
      rw [hr]
      unfold aGone
      rw [if_neg (by omega), if_pos (by omega)]
      have e3 : 0 + 2 + 19 * x + y + 19 = 0 + 2 + 19 * (x + 1) + y := by omega
      rw [e3]
  · rw [hg0]
    exact (gI_sIk (by decide)).trans h10
theorem rm_w {S : St} {j c : Nat} (hI : IC S) : gN (rmS S j c) 0 8 = gN S 0 8 := by
  unfold rmS
  rw [gN_sWn (by have := hI.c; omega)]
  rfl
theorem st_drop : step_drop Rel := by
  intro n S T a1 hn h
  have hw := h.1.w
  have h0 := h.2.2.1
  obtain ⟨V, L, t, c, p, hC⟩ := h.2.2.2.1
  have hc3 : gI S (gN S 0 8) 3 = nI c := hC.1.2.2.1
  have ht4 : gI S (gN S 0 8) 4 = nI t := hC.1.2.2.2.1
  have hc6 : c ≤ 6 := hC.2.1.2.1
  have ht5 : t ≤ 50 := hC.2.1.1
  have hr1 : gA T 3 1 = nI c := hC.2.2.2.2.1.2.1
  have hr0 : gA T 3 0 = nI t := hC.2.2.2.2.1.1
  unfold wp_X11_drop
  rcases rng a1 0 c (by omega) with b | ⟨j1, g1, h1, rfl⟩
  · exact c_pane_b hw hc3 hc6 b (d_0 ((by unfold wp_X12_drop; exact r_pane_b hr1 hc6 b (d_0 (⟨rfl, h⟩)))))
  have hP1 := (h.1.2.1 _ j1 hw (by omega)).1
  have hQ1 := (h.1.2.1 _ j1 hw (by omega)).2
  have hrc1 := hC.1.2.2.2.2 j1 h1
  have hv1 := hC.2.1.2.2 j1 h1
  have hat1 : At T 0 j1 (0 + 2 + 19 * j1) := ⟨h0, rfl, by omega⟩
  have hrs1 := hC.2.2.2.2.1.2.2 j1 h1
  refine c_pane_t hw hc3 hc6 h1 (d_1 (?_))
  refine nm_e ⟨hw, c_remove h.1 hc3 h1 hc6 rfl ?_⟩
  rw [rm_w h.1]
  refine nm_e ⟨hw, ?_⟩
  unfold wp_X12_drop
  refine r_pane_t hr1 hc6 h1 (d_1 (?_))
  refine r_goes rfl h1 hc6 hr1 fun r' hr' => ⟨i_1 (by decide) (by decide), ?_⟩
  rw [e_1, gA_sR, hr']
  refine ⟨?_, h.remove hC h1 hr'⟩
  unfold aGone
  rw [if_pos rfl]
  exact gI_sIs
theorem r_lay_l {T : St} {u p1 b p2 b2 : Nat} {x y z v : Int32} {q q2 : AP} {K : Int32 → St → Prop} {r0 : Nat → Int32} (h : At T u p1 b) (h2 : At T u p2 b2) (hbb : b + 19 ≤ b2 ∨ b2 + 19 ≤ b) (hx : x = nI p1) (hy : y = nI p2) (hz : z = nI q.2.1) (hv : v = nI q2.2.1) (hs : q.2.1 + q2.2.1 ≤ 16) (hr0 : ∀ j, j < q2.2.1 → r0 (b2 + (3 + j)) = eI (q2.2.2.2 j)) (kk : ∀ w r', (∀ j, j < q2.2.1 → r' (b + (3 + (q.2.1 + j))) = eI (q2.2.2.2 j)) → (∀ j, j < b + 3 + q.2.1 ∨ b + 19 ≤ j → r' j = r0 j) → K w (sR T 3 r')) : ∀ (m c : Nat) (r : Nat → Int32), c + m = q2.2.1 → (∀ j, j < c → r (b + (3 + (q.2.1 + j))) = eI (q2.2.2.2 j)) → (∀ j, j < b + 3 + q.2.1 ∨ b + 19 ≤ j → r j = r0 j) → wl_X12_lay_53 x y z v K (m + 1) (nI c) (sR T 3 r)
  | 0, c, r, hc, hr, ho => by
    rw [wl_X12_lay_53]
    exact d_leT q2.2.1 c (by omega) (kk _ _ (by rw [← hc]; exact hr) ho) hv
  | m + 1, c, r, hc, hr, ho => by
    rw [wl_X12_lay_53]
    refine d_leF q2.2.1 c (by omega) ?_ hv
    refine r_its (T := sR T 3 r) (k := 3 + c) h2 hy (nI_add 3 _) (by omega) ?_
    refine r_bec (T := sR T 3 r) (k := 3 + (q.2.1 + c)) h hx ?_ (by omega) (nm_r (nI_1 c) ?_)
    · rw [hz]
      show nI 3 + nI q.2.1 + nI c = _
      rw [nI_add, nI_add, Nat.add_assoc]
    · rw [sR_sR, gA_sR]
      refine r_lay_l h h2 hbb hx hy hz hv hs hr0 kk m (c + 1) _ (by omega) (fun j hj => ?_) (fun j hj => ?_)
      · by_cases hjc : j = c
        · subst hjc
          rw [u1_s, ho _ (by omega)]
          exact hr0 _ (by omega)
        · rw [u1_n (by omega)]
          exact hr j (by omega)
      · rw [u1_n (by omega)]
        exact ho j hj
theorem st_lay : step_lay Rel := by
  intro n S T a1 a2 hn h
  have hw := h.1.w
  have h0 := h.2.2.1
  obtain ⟨V, L, t, c, p, hC⟩ := h.2.2.2.1
  have hc3 : gI S (gN S 0 8) 3 = nI c := hC.1.2.2.1
  have ht4 : gI S (gN S 0 8) 4 = nI t := hC.1.2.2.2.1
  have hc6 : c ≤ 6 := hC.2.1.2.1
  have ht5 : t ≤ 50 := hC.2.1.1
  have hr1 : gA T 3 1 = nI c := hC.2.2.2.2.1.2.1
  have hr0 : gA T 3 0 = nI t := hC.2.2.2.2.1.1
  unfold wp_X11_lay
  rcases rng a1 0 c (by omega) with b | ⟨j1, g1, h1, rfl⟩
  · exact c_pane_b hw hc3 hc6 b (d_0 ((by unfold wp_X12_lay; exact r_pane_b hr1 hc6 b (d_0 (⟨rfl, h⟩)))))
  rcases rng a2 0 c (by omega) with b | ⟨j2, g2, h2, rfl⟩
  · exact c_pane_t hw hc3 hc6 h1 (d_1 (c_pane_b hw hc3 hc6 b (d_0 ((by unfold wp_X12_lay; exact r_pane_t hr1 hc6 h1 (d_1 (r_pane_b hr1 hc6 b (d_0 (⟨rfl, h⟩)))))))))
  have hP1 := (h.1.2.1 _ j1 hw (by omega)).1
  have hQ1 := (h.1.2.1 _ j1 hw (by omega)).2
  have hrc1 := hC.1.2.2.2.2 j1 h1
  have hv1 := hC.2.1.2.2 j1 h1
  have hat1 : At T 0 j1 (0 + 2 + 19 * j1) := ⟨h0, rfl, by omega⟩
  have hrs1 := hC.2.2.2.2.1.2.2 j1 h1
  have hP2 := (h.1.2.1 _ j2 hw (by omega)).1
  have hQ2 := (h.1.2.1 _ j2 hw (by omega)).2
  have hrc2 := hC.1.2.2.2.2 j2 h2
  have hv2 := hC.2.1.2.2 j2 h2
  have hat2 : At T 0 j2 (0 + 2 + 19 * j2) := ⟨h0, rfl, by omega⟩
  have hrs2 := hC.2.2.2.2.1.2.2 j2 h2
  refine c_pane_t hw hc3 hc6 h1 (d_1 (c_pane_t hw hc3 hc6 h2 (d_1 (?_))))
  refine pk_eq j1 j2 (fun e => ?_) (fun e => ?_)
  · unfold wp_X12_lay
    refine r_pane_t hr1 hc6 h1 (d_1 (r_pane_t hr1 hc6 h2 (d_1 (?_))))
    exact d_eqT j1 j2 e ⟨rfl, h⟩
  · rw [nI_clamp (by omega), nI_clamp (by omega)]
    have hn1 := hv1.2.2.1
    have hn2 := hv2.2.2.1
    refine nm_e ⟨hw, vp_in_nI (by omega) (by decide), nm_e ⟨hP1, vp_in_nI (by omega) (by decide), nm_e ⟨hP2, ?_⟩⟩⟩
    rw [hrc1.2.1, hrc2.2.1, nI_add]
    have e16 : (16 : Int32) - nI (p j2).2.1 = nI (16 - (p j2).2.1) := pk_sub (a := 16) hn2
    refine pk_le ((p j1).2.1 + (p j2).2.1) 16 (fun hs => ?_) (fun hs => ?_)
    · have hne : gN S (gN S 0 8 + 3) j2 ≠ gN S (gN S 0 8 + 3) j1 := fun e' => e (h.1.2.2 _ j2 _ j1 hw hw (by omega) (by omega) e').2.symm
      refine c_append hP1 hP2 hne hrc1 hrc2 hn2 hs fun i a hr => nm_e ⟨hw, ?_⟩
      have hvJ := hv1.join hv2 hs
      have gj := hP1.1
      have hcc := h.1.c
      have h3' : gI (sP S (gN S (gN S 0 8 + 3) j1) i a) (gN (sP S (gN S (gN S 0 8 + 3) j1) i a) 0 8) 3 = nI c := by
        show gI (sP S (gN S (gN S 0 8 + 3) j1) i a) (gN S 0 8) 3 = nI c
        rw [gI_sPn (by omega)]
        exact hc3
      have hI1 : IC (sP S (gN S (gN S 0 8 + 3) j1) i a) := h.1
      have crem := c_remove (S := sP S (gN S (gN S 0 8 + 3) j1) i a) (j := j2) (c := c) (x := nI j2) (Q := fun S16 => (nI j1 ≤ nI j2 → wp_X12_lay (nI j1) (nI j2) T (fun r1 T1 => nI j1 = r1 ∧ Rel n S16 T1)) ∧ (¬ nI j1 ≤ nI j2 → wp_X12_lay (nI j1) (nI j2) T (fun r1 T1 => nI j1 - 1 = r1 ∧ Rel n S16 T1))) hI1 h3' h2 hc6 rfl
      refine crem ?_
      have key : ∀ R : Int32 → St → Prop, (∀ T1, Rel n (rmS (sP S (gN S (gN S 0 8 + 3) j1) i a) j2 c) T1 → (nI j1 ≤ nI j2 → R (nI j1) T1) ∧ (¬ nI j1 ≤ nI j2 → R (nI j1 - 1) T1)) → wp_X12_lay (nI j1) (nI j2) T R := by
        intro R k
        unfold wp_X12_lay
        refine r_pane_t hr1 hc6 h1 (d_1 (r_pane_t hr1 hc6 h2 (d_1 (?_))))
        refine d_eqF j1 j2 e (r_its hat1 rfl (k := 1) rfl (by decide) (r_its hat2 rfl (k := 1) rfl (by decide) ?_))
        rw [hrs1.2.1, hrs2.2.1, e16, nI_add]
        refine d_leT (p j1).2.1 (16 - (p j2).2.1) (by omega) ⟨(p j2).2.1 + 1, ?_⟩
        have eT : T = sR T 3 (gA T 3) := sR_self.symm
        have := r_lay_l (T := T) (q := p j1) (q2 := p j2) (r0 := gA T 3) (x := nI j1) (y := nI j2) (z := nI (p j1).2.1) (v := nI (p j2).2.1) (K := fun e5_18 S19 => wp_X12_becomes (nI j1) (1 : Int32) (nI ((p j1).2.1 + (p j2).2.1)) S19 (fun S20 => wp_X12_goes (nI j2) S20 (fun S21 => ((nI j1 ≤ nI j2 → R (nI j1) S21) ∧ (¬ nI j1 ≤ nI j2 → R (nI j1 - (1 : Int32)) S21))))) hat1 hat2 (by omega) rfl rfl rfl rfl hs hrs2.2.2.2 (fun w r' q1 q2 => ?_) (p j2).2.1 0 (gA T 3) (by omega) (fun j hj => absurd hj (by omega)) (fun _ _ => rfl)
        · rw [sR_self] at this
          exact this
        · refine r_bec (T := sR T 3 r') hat1 rfl (k := 1) rfl (by decide) ?_
          rw [sR_sR, gA_sR]
          have hsJ : RS (up1 r' (0 + 2 + 19 * j1 + 1) (nI ((p j1).2.1 + (p j2).2.1))) (0 + 2 + 19 * j1) (aJoin (p j1) (p j2)) := by
            refine ⟨?_, u1_s, ?_, fun j hj => ?_⟩
            · rw [u1_n (by omega), q2 _ (by omega)]
              exact hrs1.1
            · rw [u1_n (by omega), q2 _ (by omega)]
              exact hrs1.2.2.1
            · have hj' : j < (p j1).2.1 + (p j2).2.1 := hj
              rw [u1_n (by omega)]
              show _ = eI (if j < (p j1).2.1 then (p j1).2.2.2 j else (p j2).2.2.2 (j - (p j1).2.1))
              by_cases hjn : j < (p j1).2.1
              · rw [if_pos hjn, q2 _ (by omega)]
                exact hrs1.2.2.2 j hjn
              · rw [if_neg hjn]
                have := q1 (j - (p j1).2.1) (by omega)
                have e5 : (p j1).2.1 + (j - (p j1).2.1) = j := by omega
                rw [e5] at this
                exact this
          have hoJ : Out (gA T 3) (up1 r' (0 + 2 + 19 * j1 + 1) (nI ((p j1).2.1 + (p j2).2.1))) (0 + 2 + 19 * j1) := fun j hj => by rw [u1_n (by omega), q2 _ (by omega)]
          have hR1 := h.pane hC h1 hr hvJ hsJ hoJ
          have hr11 : gA (sR T 3 (up1 r' (0 + 2 + 19 * j1 + 1) (nI ((p j1).2.1 + (p j2).2.1)))) 3 1 = nI c := by
            rw [gA_sR, hoJ 1 (by omega)]
            exact hr1
          refine r_goes (T := sR T 3 (up1 r' (0 + 2 + 19 * j1 + 1) (nI ((p j1).2.1 + (p j2).2.1)))) rfl h2 hc6 hr11 fun r2 hr2 => ?_
          obtain ⟨V1, L1, t1, c1, p1, hC1⟩ := hR1.2.2.2.1
          have hc1 : c1 = c := by
            have e7 := hC1.2.2.2.2.1.2.1
            have e8 : nI c1 = nI c := e7.symm.trans hr11
            exact (nI_eq (by have := hC1.2.1.2.1; omega) (by omega)).mp e8
          subst hc1
          exact k _ (hR1.remove hC1 h2 hr2)
      exact pk_le j1 j2 (fun g => key _ fun T1 hT1 => d_leT j1 j2 g ⟨rfl, hT1⟩) (fun g => key _ fun T1 hT1 => d_leF j1 j2 g ⟨rfl, hT1⟩)
    · unfold wp_X12_lay
      refine r_pane_t hr1 hc6 h1 (d_1 (r_pane_t hr1 hc6 h2 (d_1 (?_))))
      refine d_eqF j1 j2 e (r_its hat1 rfl (k := 1) rfl (by decide) (r_its hat2 rfl (k := 1) rfl (by decide) ?_))
      rw [hrs1.2.1, hrs2.2.1, e16]
      exact d_leF (p j1).2.1 (16 - (p j2).2.1) (by omega) ⟨rfl, h⟩
