/-! STEPS: days, pane, cut, lay, drop -/
theorem OS.trans {S S' S'' : St} (h : OS S S') (h' : OS S' S'') : OS S S'' := by
  obtain ⟨a1, a2, a3, a4, a5, a6, a7, a8, a9, a10⟩ := h
  obtain ⟨b1, b2, b3, b4, b5, b6, b7, b8, b9, b10⟩ := h'
  exact ⟨b1.trans a1, b2.trans a2, b3.trans a3, b4.trans a4, b5.trans a5, b6.trans a6, b7.trans a7, b8.trans a8, b9.trans a9, fun c hc => ⟨(b10 c hc).1.trans (a10 c hc).1, (b10 c hc).2.1.trans (a10 c hc).2.1, (b10 c hc).2.2.trans (a10 c hc).2.2⟩⟩
theorem KM.trans {S S' S'' : St} (h : KM S S') (h' : KM S' S'') : KM S S'' := by
  obtain ⟨a1, a2, a3, a4, a5, a6⟩ := h
  obtain ⟨b1, b2, b3, b4, b5, b6⟩ := h'
  refine ⟨b1.trans a1, b2.trans a2, b3.trans a3, b4.trans a4, b5.trans a5, fun j hj => ?_⟩
  have := b6 j hj
  rw [a5] at this
  exact ⟨this.1.trans (a6 j hj).1, this.2.trans (a6 j hj).2⟩
/-- S is S0 but for the world's panes, its count, its today t -/
def DF (S0 S : St) (V L : Nat → Nat) (t : Nat) : Prop := gN S = gN S0 ∧ OS S0 S ∧ KM S0 S ∧ FC S ∧ NR (gA S (gN S0 0 8 + 1)) V 200 99 ∧ NR (gA S (gN S0 0 8 + 2)) L 12 9 ∧ gI S (gN S0 0 8) 4 = nI t ∧ gI S (gN S0 0 8) 5 = gI S0 (gN S0 0 8) 5
def PR (S0 S : St) (c : Nat) (p : Nat → AP) : Prop := ∀ j, j < c → RC (gI S (gN S0 (gN S0 0 8 + 3) j)) (gA S (gN S0 (gN S0 0 8 + 3) j + 1)) (p j)
section DFS
variable {n : List Nat} {S0 S T : St} {V L : Nat → Nat} {t t' c c' j : Nat} {p p' : Nat → AP} {i a : Nat → Int32} {q : AP} {v : Int32}
theorem DF.refl (h : Rel n S T) (hC : Cur S T V L t c p) : DF S S V L t := ⟨rfl, OS.refl S, KM.refl S, h.2.1, hC.1.1, hC.1.2.1, hC.1.2.2.2.1, rfl⟩
theorem IC.pn {S : St} (h : IC S) {j : Nat} (hj : j < 6) : isPn (gN S (gN S 0 8 + 3) j) := (h.2.1 _ j h.w hj).1
theorem IC.nk {S : St} (h : IC S) {j : Nat} (hj : j < 6) : ∀ x, x < 6 → gN S 12 x ≠ gN S (gN S 0 8 + 3) j := fun x hx e => h.w9 (h.2.2 9 x _ j isW9 h.w hx hj e).1.symm
theorem DF.pane (h : DF S0 S V L t) (hI : IC S0) (hj : j < 6) (hr : RC i a q) : DF S0 (sP S (gN S0 (gN S0 0 8 + 3) j) i a) V L t := by
  obtain ⟨h1, h2, h3, h4, h5, h6, h7, h8⟩ := h
  have hP := hI.pn hj
  have hc := hI.c
  have g := hP.1
  refine ⟨h1, h2.trans (OS.sP hP), h3.trans (KM.sP hP fun x hx => ?_), h4.sP hr, ?_, ?_, ?_, ?_⟩
  · rw [h1]
    exact hI.nk hj x hx
  · rw [gA_sPn (by omega)]
    exact h5
  · rw [gA_sPn (by omega)]
    exact h6
  · rw [gI_sPn (by omega)]
    exact h7
  · rw [gI_sPn (by omega)]
    exact h8
theorem DF.cnt (h : DF S0 S V L t) (hI : IC S0) : DF S0 (sI S (gN S0 0 8) 3 v) V L t := by
  obtain ⟨h1, h2, h3, h4, h5, h6, h7, h8⟩ := h
  have hI' : IC S := by
    unfold IC
    rw [h1]
    exact hI
  have hc : 13 ≤ gN S0 0 8 ∧ gN S0 0 8 < 21 := by rcases hI.c with e | e <;> rw [e] <;> decide
  exact ⟨h1, h2.trans (OS_I hc.1 hc.2), h3.trans (KM_I hI' hc.1 hc.2), FC_I h4 hc.2, h5, h6, by rw [gI_sIk (by decide)]; exact h7, by rw [gI_sIk (by decide)]; exact h8⟩
theorem DF.day (h : DF S0 S V L t) (hI : IC S0) (hv : v = nI t') : DF S0 (sI S (gN S0 0 8) 4 v) V L t' := by
  obtain ⟨h1, h2, h3, h4, h5, h6, h7, h8⟩ := h
  have hI' : IC S := by
    unfold IC
    rw [h1]
    exact hI
  have hc : 13 ≤ gN S0 0 8 ∧ gN S0 0 8 < 21 := by rcases hI.c with e | e <;> rw [e] <;> decide
  exact ⟨h1, h2.trans (OS_I hc.1 hc.2), h3.trans (KM_I hI' hc.1 hc.2), FC_I h4 hc.2, h5, h6, by rw [gI_sIs]; exact hv, by rw [gI_sIk (by decide)]; exact h8⟩
theorem PR.pane (h : PR S0 S c p) (hI : IC S0) (hj : j < 6) (hc6 : c' ≤ 6) (hr : RC i a q) (hc : ∀ x, x < c' → (x = j ∧ p' x = q) ∨ (x ≠ j ∧ x < c ∧ p' x = p x)) : PR S0 (sP S (gN S0 (gN S0 0 8 + 3) j) i a) c' p' := by
  intro x hx
  rcases hc x hx with ⟨rfl, e⟩ | ⟨h1, h2, h3⟩
  · rw [gI_sP, gA_sP, e]
    exact hr
  · have hne : gN S0 (gN S0 0 8 + 3) x ≠ gN S0 (gN S0 0 8 + 3) j := fun e => h1 (hI.2.2 _ x _ j hI.w hI.w (by omega) hj e).2
    rw [gI_sPn hne, gA_sPn (by omega), h3]
    exact h x h2
theorem PR.wI {k : Nat} (h : PR S0 S c p) (hI : IC S0) (hc6 : c ≤ 6) : PR S0 (sI S (gN S0 0 8) k v) c p := by
  intro x hx
  have g := (hI.pn (j := x) (by omega)).1
  have hc := hI.c
  rw [gI_sIn (by omega)]
  exact h x hx
theorem Rel.fin {T' : St} (h : Rel n S0 T) (hD : DF S0 S V L t) (hP : PR S0 S c p) (h3 : gI S (gN S0 0 8) 3 = nI c) (hv : VW t c p) (hT : OT T T') (h0' : gI T' 0 3 = nI 0) (hV : NR (gA T' 1) V 200 99) (hL : NR (gA T' 2) L 12 9) (hr : RW (gA T' 3) 0 t c p) (hz : gI T' 0 4 = gI T 0 4) : Rel n S T' := by
  obtain ⟨h1, h2, h3', h4, h5, h6, h7, h8⟩ := hD
  obtain ⟨V0, L0, t0, c0, p0, hC⟩ := h.2.2.2.1
  have hI' : IC S := by
    unfold IC
    rw [h1]
    exact h.1
  refine h.upd (V := V) (L := L) (t := t) (c := c) (p := p) h2 h3' hT hI' h4 h0' ⟨?_, hv, hV, hL, hr, ?_⟩
  · unfold CW
    rw [h1]
    exact ⟨h5, h6, h3, h7, hP⟩
  · rw [h1, h8, hz]
    exact hC.2.2.2.2.2
end DFS
theorem c_wday_l {S0 : St} {V L : Nat → Nat} {t c : Nat} {p : Nat → AP} {K : Int32 → St → Prop} (hI : IC S0) (ht : t < 50) (hc6 : c ≤ 6) (hv : ∀ j, j < c → VPa (p j)) (k : ∀ y S', DF S0 S' V L t → PR S0 S' c (fun j => aPass t (p j)) → gI S' (gN S0 0 8) 3 = nI c → K y S') : ∀ (m i : Nat) (S : St), i + m = c → DF S0 S V L t → PR S0 S c (fun j => if j < i then aPass t (p j) else p j) → gI S (gN S0 0 8) 3 = nI c → wl_X10_passDay_2 (gN S0 0 8) K (m + 1) (nI i) S
  | 0, i, S, hi, hD, hP, h3 => by
    rw [wl_X10_passDay_2, h3]
    refine d_leT c i (by omega) (k _ _ hD (fun j hj => ?_) h3)
    have := hP j hj
    simp only [] at this
    rw [if_pos (by omega)] at this
    exact this
  | m + 1, i, S, hi, hD, hP, h3 => by
    have hd := hD
    obtain ⟨h1, -, -, -, -, -, h7, -⟩ := hd
    have hw := hI.w
    have hPi := hI.pn (j := i) (by omega)
    have g := hPi.1
    have hcc := hI.c
    rw [wl_X10_passDay_2, h3]
    refine d_leF c i (by omega) ⟨vp_in_nI (by omega) (by decide), ?_⟩
    rw [nI_clamp (by omega), h1]
    have hri := hP i (by omega)
    simp only [] at hri
    rw [if_neg (by omega)] at hri
    refine nm_e ⟨hPi, c_passDay (p := p i) hPi hri (hv i (by omega)) h7 ht fun i2 a2 hr2 => nm_r (nI_1 i) ?_⟩
    refine c_wday_l hI ht hc6 hv k m (i + 1) _ (by omega) (hD.pane hI (by omega) hr2) (hP.pane hI (by omega) hc6 hr2 fun x hx => ?_) (by rw [gI_sPn (by omega)]; exact h3)
    by_cases e : x = i
    · subst e
      exact Or.inl ⟨rfl, if_pos (by omega)⟩
    · refine Or.inr ⟨e, hx, ?_⟩
      by_cases e2 : x < i
      · rw [if_pos (by omega), if_pos e2]
      · rw [if_neg (by omega), if_neg e2]
theorem c_wday {S0 S : St} {V L : Nat → Nat} {t c : Nat} {p : Nat → AP} {Q : St → Prop} (hI : IC S0) (ht : t < 50) (hc6 : c ≤ 6) (hv : ∀ j, j < c → VPa (p j)) (hD : DF S0 S V L t) (hP : PR S0 S c p) (h3 : gI S (gN S0 0 8) 3 = nI c) (k : ∀ S', DF S0 S' V L (t + 1) → PR S0 S' c (fun j => aPass t (p j)) → gI S' (gN S0 0 8) 3 = nI c → Q S') : wp_X10_passDay (gN S0 0 8) S Q := by
  unfold wp_X10_passDay
  refine ⟨hI.w, c + 1, c_wday_l hI ht hc6 hv (fun y S' hD' hP' h3' => nm_e (k _ (hD'.day hI ?_) (hP'.wI hI hc6) (by rw [gI_sIk (by decide)]; exact h3'))) c 0 S (by omega) hD (fun j hj => ?_) h3⟩
  · rw [hD'.2.2.2.2.2.2.1]
    exact nI_1 t
  · simp only []
    rw [if_neg (by omega)]
    exact hP j hj
theorem c_days_l {S0 : St} {V L : Nat → Nat} {t c e : Nat} {N : Nat} {p : Nat → AP} {x : Int32} {K : Int32 → St → Prop} (hI : IC S0) (hx : x = nI N) (hN : N ≤ 50) (ht5 : t ≤ 50) (he : e = min N (50 - t)) (hc6 : c ≤ 6) (hv : ∀ j, j < c → VPa (p j)) (k : ∀ y S', DF S0 S' V L (t + e) → PR S0 S' c (fun j => aAt t (p j) e) → gI S' (gN S0 0 8) 3 = nI c → K y S') : ∀ (m i : Nat) (S : St), i + m = e → DF S0 S V L (t + i) → PR S0 S c (fun j => aAt t (p j) i) → gI S (gN S0 0 8) 3 = nI c → wl_X11_days_14 x K (m + 1) (nI i) S
  | 0, i, S, hi, hD, hP, h3 => by
    have hi' : i = e := by omega
    subst hi'
    rw [wl_X11_days_14, hx, hD.1]
    by_cases h : N ≤ i
    · exact d_leT N i h (k _ _ hD hP h3)
    · refine d_leF N i (by omega) (nm_e ⟨hI.w, ?_⟩)
      rw [hD.2.2.2.2.2.2.1]
      exact d_leT 50 (t + i) (by omega) (k _ _ hD hP h3)
  | m + 1, i, S, hi, hD, hP, h3 => by
    rw [wl_X11_days_14, hx, hD.1]
    refine d_leF N i (by omega) (nm_e ⟨hI.w, ?_⟩)
    rw [hD.2.2.2.2.2.2.1]
    refine d_leF 50 (t + i) (by omega) (c_wday hI (by omega) hc6 (fun j hj => (hv j hj).at i (by omega)) hD hP h3 fun S' hD' hP' h3' => nm_r (nI_1 i) ?_)
    rw [← hx]
    exact c_days_l hI hx hN ht5 he hc6 hv k m (i + 1) S' (by omega) hD' hP' h3'
theorem r_days_l {T : St} {t c e N : Nat} {p : Nat → AP} {x : Int32} {K : Int32 → St → Prop} {r0 : Nat → Int32} (hx : x = nI N) (hN : N ≤ 50) (ht5 : t ≤ 50) (he : e = min N (50 - t)) (hc6 : c ≤ 6) (hv : ∀ j, j < c → VPa (p j)) (k : ∀ y r', RW r' 0 (t + e) c (fun j => aAt t (p j) e) → K y (sU T 0 r')) : ∀ (m i : Nat) (r : Nat → Int32), i + m = e → RW r 0 (t + i) c (fun j => aAt t (p j) i) → wl_X12_days_14 x K (m + 1) (nI i) (sU T 0 r)
  | 0, i, r, hi, hr => by
    have hi' : i = e := by omega
    subst hi'
    rw [wl_X12_days_14, hx, e_0, gA_sU, hr.1]
    by_cases h : N ≤ i
    · exact d_leT N i h (k _ _ hr)
    · exact d_leF N i (by omega) ⟨i_0 (by decide) (by decide), d_leT 50 (t + i) (by omega) (k _ _ hr)⟩
  | m + 1, i, r, hi, hr => by
    rw [wl_X12_days_14, hx, e_0, gA_sU, hr.1]
    refine d_leF N i (by omega) ⟨i_0 (by decide) (by decide), d_leF 50 (t + i) (by omega) (r_dayGoes (by omega) hc6 (by decide) (fun j hj => (hv j hj).at i (by omega)) hr fun r' hr' ho => nm_r (nI_1 i) ?_)⟩
    rw [← hx]
    exact r_days_l (r0 := r0) hx hN ht5 he hc6 hv k m (i + 1) r' (by omega) hr'
theorem st_days : step_days Rel := by
  intro n S T a1 hn h
  have hw := h.1.w
  have h0 := h.2.2.1
  obtain ⟨V, L, t, c, p, hC⟩ := h.2.2.2.1
  have hc3 : gI S (gN S 0 8) 3 = nI c := hC.1.2.2.1
  have ht4 : gI S (gN S 0 8) 4 = nI t := hC.1.2.2.2.1
  have hc6 : c ≤ 6 := hC.2.1.2.1
  have ht5 : t ≤ 50 := hC.2.1.1
  have hr1 : gA T 3 1 = nI c := hC.2.2.2.2.1.2.1
  have hr0 : gA T 3 0 = nI t := hC.2.2.2.2.1.1
  unfold wp_X11_days
  rcases rng a1 0 51 (by omega) with b | ⟨j1, g1, h1, rfl⟩
  · exact g2_b (M := 50) b (by unfold wp_X12_days; exact r_in_b (M := 50) b (d_0 (⟨rfl, h⟩)))
  refine g2_t (M := 50) g1 h1 (?_)
  refine ⟨min j1 (50 - t) + 1, c_days_l (S0 := S) (V := V) (L := L) (t := t) (c := c) (e := min j1 (50 - t)) (N := j1) (p := p) h.1 rfl (by omega) ht5 rfl hc6 hC.2.1.2.2 (fun y S' hD hP h3 => ?_) (min j1 (50 - t)) 0 S (by omega) (DF.refl h hC) hC.1.2.2.2.2 hc3⟩
  rw [hD.1]
  refine nm_e ⟨hw, ?_⟩
  rw [hD.2.2.2.2.2.2.1]
  unfold wp_X12_days
  refine r_in_t (M := 50) g1 h1 (d_1 (?_))
  have := r_days_l (T := T) (t := t) (c := c) (e := min j1 (50 - t)) (N := j1) (p := p) (x := nI j1) (r0 := gA T 3) (K := fun _ S10 => vp_in (0 : Int32) 232 ∧ (nI (t + min j1 (50 - t)) = gA S10 3 (0 : Int32).toNatClampNeg ∧ Rel n S' S10)) rfl (by omega) ht5 rfl hc6 hC.2.1.2.2 (fun y2 r' hr' => ⟨i_0 (by decide) (by decide), by rw [e_0, gA_sU]; exact hr'.1.symm, h.fin hD hP h3 ⟨by omega, hc6, fun j hj => (hC.2.1.2.2 j hj).at _ (by omega)⟩ OT.sU gI_sU (by rw [gA_sUn (by decide)]; exact hC.2.2.1) (by rw [gA_sUn (by decide)]; exact hC.2.2.2.1) (by rw [gA_sU]; exact hr') (gI_sUn (by decide))⟩) (min j1 (50 - t)) 0 (gA T 3) (by omega) hC.2.2.2.2.1
  rw [sU_self h0] at this
  exact ⟨min j1 (50 - t) + 1, this⟩
theorem c_full {w c : Nat} {S : St} {Q : Int32 → St → Prop} (hw : isW w) (h3 : gI S w 3 = nI c) (hc6 : c ≤ 6) (q0 : c < 6 → Q 0 S) (q1 : c = 6 → Q 1 S) : wp_X10_isFull w S Q := by
  unfold wp_X10_isFull
  rw [h3]
  exact ⟨hw, pk_lt c 6 q0 (fun h => q1 (by omega))⟩
theorem c_add {c k m : Nat} {S : St} {x y : Int32} {Q : Nat → St → Prop} (hI : IC S) (hF : FC S) (h3 : gI S (gN S 0 8) 3 = nI c) (hc : c < 6) (hx : x = nI k) (hy : y = nI m) (hm : m ≤ 16) (q : ∀ i a, RC i a (k, m, 4, fun _ => 500) → Q (gN S (gN S 0 8 + 3) c) (sI (sP S (gN S (gN S 0 8 + 3) c) i a) (gN S 0 8) 3 (nI (c + 1)))) : wp_X10_addPane (gN S 0 8) x y S Q := by
  have hP := hI.pn hc
  have g := hP.1
  have hcc := hI.c
  obtain ⟨fc, hf, h1⟩ := hF _ hP
  unfold wp_X10_addPane
  rw [h3, nI_clamp (by omega)]
  refine ⟨hI.w, vp_in_nI (by omega) (by decide), nm_e ⟨hP, c_become hP hf h1 hx hy hm fun i a hr => nm_e ?_⟩⟩
  rw [gI_sPn (by omega), h3]
  have := q i a hr
  rw [← nI_1] at this
  exact this
/-- a pane more -/
theorem RW.more {r r' : Nat → Int32} {t c : Nat} {p : Nat → AP} {q : AP} (h : RW r 0 t c p) (hv : VW t c p) (hs : RS r' (0 + 2 + 19 * c) q) (hq : q.2.1 ≤ 16) (ho : Out r r' (0 + 2 + 19 * c)) : RW (up1 r' 1 (nI (c + 1))) 0 t (c + 1) (fun x => if x = c then q else p x) := by
  refine ⟨?_, ?_, fun j hj => ?_⟩
  · rw [u1_n (by omega), ho _ (by omega)]
    exact h.1
  · exact u1_s (f := r') (k := 1)
  · show RS (up1 r' 1 (nI (c + 1))) (0 + 2 + 19 * j) (if j = c then q else p j)
    by_cases e : j = c
    · subst e
      rw [if_pos rfl]
      exact hs.eq hq fun x hx => u1_n (by omega)
    · rw [if_neg e]
      exact (h.2.2 j (by omega)).eq (hv.2.2 j (by omega)).2.2.1 fun x hx => by rw [u1_n (by omega)]; exact ho _ (by omega)
theorem e_m1 {c : Nat} : nI (c + 1) - (1 : Int32) = nI c := pk_sub (b := 1) (by omega)
theorem st_pane : step_pane Rel := by
  intro n S T a1 a2 hn h
  have hw := h.1.w
  have h0 := h.2.2.1
  obtain ⟨V, L, t, c, p, hC⟩ := h.2.2.2.1
  have hc3 : gI S (gN S 0 8) 3 = nI c := hC.1.2.2.1
  have ht4 : gI S (gN S 0 8) 4 = nI t := hC.1.2.2.2.1
  have hc6 : c ≤ 6 := hC.2.1.2.1
  have ht5 : t ≤ 50 := hC.2.1.1
  have hr1 : gA T 3 1 = nI c := hC.2.2.2.2.1.2.1
  have hr0 : gA T 3 0 = nI t := hC.2.2.2.2.1.1
  unfold wp_X11_pane
  rcases rng a1 0 6 (by omega) with b | ⟨j1, g1, h1, rfl⟩
  · exact c_kind_b b (d_0 ((by unfold wp_X12_pane; exact r_in_b (M := 5) b (d_0 (⟨rfl, h⟩)))))
  rcases rng a2 1 17 (by omega) with b | ⟨j2, g2, h2, rfl⟩
  · exact c_kind_t h1 (d_1 (g2_b (M := 16) b (by unfold wp_X12_pane; exact r_in_t (M := 5) (Nat.zero_le _) h1 (d_1 (r_in_b (M := 16) b (d_0 (⟨rfl, h⟩)))))))
  refine c_kind_t h1 (d_1 (g2_t (M := 16) g2 h2 (?_)))
  refine nm_e ⟨hw, c_full hw hc3 hc6 (fun hc => d_0 (nm_e ⟨hw, c_add h.1 h.2.1 hc3 hc rfl rfl (by omega) fun i a hr => ?_⟩)) (fun hc => d_1 ?_)⟩
  · have g := (h.1.pn hc).1
    have hcc := h.1.c
    refine ⟨h.1.pn hc, nm_e ⟨hw, ?_⟩⟩
    have hq := VPa.new (k := j1) (n := j2) h1 g2 (by omega)
    rw [show gN (sI (sP S (gN S (gN S 0 8 + 3) c) i a) (gN S 0 8) 3 (nI (c + 1))) 0 8 = gN S 0 8 from rfl, gI_sIs, e_m1]
    unfold wp_X12_pane
    refine r_in_t (M := 5) (Nat.zero_le _) h1 (d_1 (r_in_t (M := 16) g2 h2 (d_1 (?_))))
    rw [e_1, hr1]
    refine ⟨i_1 (by decide) (by decide), d_eqF c 6 (by omega) ⟨i_1 (by decide) (by decide), r_makes (u := 0) (p := c) (b := 0 + 2 + 19 * c) (k := j1) (n := j2) (pl := 4) ⟨h0, rfl, by omega⟩ rfl rfl rfl rfl (by omega) fun r' hs ho => ⟨i_1 (by decide) (by decide), i_1 (by decide) (by decide), nm_e ⟨i_1 (by decide) (by decide), ?_⟩⟩⟩⟩
    rw [sA_R, sR_sR, gA_sR, gA_sR, ho 1 (by omega), hr1, nI_1, u1_s, e_m1]
    refine ⟨rfl, h.fin (V := V) (L := L) (t := t) (c := c + 1) (p := fun x => if x = c then (j1, j2, 4, fun _ => 500) else p x) (((DF.refl h hC).pane h.1 hc hr).cnt h.1) (PR.wI (PR.pane (c := c) (p := p) (c' := c + 1) hC.1.2.2.2.2 h.1 hc (by omega) hr fun x hx => ?_) h.1 (by omega)) gI_sIs ⟨ht5, by omega, fun x hx => ?_⟩ ⟨rfl, rfl, rfl, rfl, gA_sRn (by decide), gA_sRn (by decide), fun d hd => gA_sRn (by omega), rfl⟩ h0 (by rw [gA_sRn (by decide)]; exact hC.2.2.1) (by rw [gA_sRn (by decide)]; exact hC.2.2.2.1) (by rw [gA_sR]; exact hC.2.2.2.2.1.more hC.2.1 hs hq.2.2.1 ho) rfl⟩
    · by_cases e : x = c
      · exact Or.inl ⟨e, if_pos e⟩
      · exact Or.inr ⟨e, by omega, if_neg e⟩
    · show VPa (if x = c then _ else p x)
      by_cases e : x = c
      · rw [if_pos e]
        exact hq
      · rw [if_neg e]
        exact hC.2.1.2.2 x (by omega)
  · unfold wp_X12_pane
    refine r_in_t (M := 5) (Nat.zero_le _) h1 (d_1 (r_in_t (M := 16) g2 h2 (d_1 (?_))))
    rw [e_1, hr1]
    exact ⟨i_1 (by decide) (by decide), d_eqT c 6 hc ⟨rfl, h⟩⟩
