/-! STEPS: dark, seen, days -/
def aDark : Nat → Nat → AP → Int32
  | 0, _, _ => -3
  | m + 1, d, q => if aLast q = 500 then aDark m (d + 1) (aPass d q) else nI d
theorem c_dark_l {S : St} {Q : Int32 → St → Prop} : ∀ (m d : Nat) (q : AP) (i a : Nat → Int32), d + m = 50 → RC i a q → VPa q → (∀ i' a' q', RC i' a' q' → Q (aDark m d q) (sP S 57 i' a')) → wl_X11_dark_34 Q (fun _ S => Q (-3 : Int32) S) (m + 1) (nI d) (sP S 57 i a)
  | 0, d, q, i, a, hd, hr, hv, k => by
    rw [wl_X11_dark_34]
    exact d_leT 50 d (by omega) (k _ _ _ hr)
  | m + 1, d, q, i, a, hd, hr, hv, k => by
    rw [wl_X11_dark_34]
    refine d_leF 50 d (by omega) (c_last (S := sP S 57 i a) isPn57 (by rw [gI_sP, gA_sP]; exact hr) hv (d_dk hv.last (fun e => ?_) (fun e _ => ?_)))
    · refine c_passDay (S := sP S 57 i a) (p := q) isPn57 (by rw [gI_sP, gA_sP]; exact hr) hv rfl (by omega) fun i2 a2 hr2 => nm_r (nI_1 d) ?_
      rw [sP_sP]
      refine c_dark_l m (d + 1) (aPass d q) i2 a2 (by omega) hr2 (hv.pass (by omega)) fun i3 a3 q3 h3 => ?_
      have := k i3 a3 q3 h3
      rw [aDark, if_pos (show aLast q = 500 from e)] at this
      exact this
    · have := k i a q hr
      rw [aDark, if_neg (by show ¬ q.2.2.2 (q.2.1 - 1) = 500; omega)] at this
      exact this
theorem r_dark_l {T : St} {c j : Nat} {x : Int32} {K : Int32 → St → Prop} {r0 : Nat → Int32} (hc : c ≤ 6) (hj : j < c) (hx : x = nI j) : ∀ (m d : Nat) (ps : Nat → AP) (r : Nat → Int32), d + m = 50 → RW r 116 d c ps → (∀ j, j < c → VPa (ps j)) → (∀ j, j < 116 → r j = r0 j) → (∀ r', (∀ j, j < 116 → r' j = r0 j) → K (aDark m d (ps j)) (sU T 116 r')) → wl_X12_dark_17 x K (m + 2) (-3 : Int32) (sU T 116 r)
  | 0, d, ps, r, hd, hr, hv, h2, k => by
    have e0 : gI (sU T 116 r) 0 3 + (0 : Int32) = nI 116 := by
      rw [gI_sU]
      exact nI_add 116 0
    rw [wl_X12_dark_17, e0, nI_clamp (by decide), gA_sU, hr.1]
    exact br_f (mI_nle (a := 3) (by decide) (by decide) 0 (by decide)) ⟨vp_in_nI (by decide) (by decide), d_leT 50 d (by omega) (k r h2)⟩
  | m + 1, d, ps, r, hd, hr, hv, h2, k => by
    have e0 : gI (sU T 116 r) 0 3 + (0 : Int32) = nI 116 := by
      rw [gI_sU]
      exact nI_add 116 0
    rw [wl_X12_dark_17, e0, nI_clamp (by decide), gA_sU, hr.1]
    refine br_f (mI_nle (a := 3) (by decide) (by decide) 0 (by decide)) ⟨vp_in_nI (by decide) (by decide), d_leF 50 d (by omega) (ru_last (b := 116 + 2 + 19 * j) rfl (by omega) hx (hr.2.2 j hj) (hv j hj) (d_ng (hv j hj).last (fun e => ?_) (fun e _ => ?_)))⟩
    · refine r_dayGoes (by omega) hc (by decide) hv hr fun r' hr' ho => ?_
      refine r_dark_l (r0 := r0) hc hj hx m (d + 1) _ r' (by omega) hr' (fun i hi => (hv i hi).pass (by omega)) (fun i hi => by rw [ho i (by omega)]; exact h2 i hi) fun r2 q2 => ?_
      have := k r2 q2
      rw [aDark, if_pos (show aLast (ps j) = 500 from e)] at this
      exact this
    · refine ⟨by rw [e0]; exact vp_in_nI (by decide) (by decide), ?_⟩
      rw [e0, nI_clamp (by decide), gA_sU, hr.1]
      refine nm_e (r_dayGoes (by omega) hc (by decide) hv hr fun r' hr' ho => ?_)
      rw [wl_X12_dark_17]
      refine br_t (nI_pos' (by omega)) ?_
      have := k r' (fun i hi => by rw [ho i (by omega)]; exact h2 i hi)
      rw [aDark, if_neg (by show ¬ (ps j).2.2.2 ((ps j).2.1 - 1) = 500; omega)] at this
      exact this
theorem st_dark : step_dark Rel := by
  intro n S T a1 hn h
  have hw := h.1.w
  have h0 := h.2.2.1
  obtain ⟨V, L, t, c, p, hC⟩ := h.2.2.2.1
  have hc3 : gI S (gN S 0 8) 3 = nI c := hC.1.2.2.1
  have ht4 : gI S (gN S 0 8) 4 = nI t := hC.1.2.2.2.1
  have hc6 : c ≤ 6 := hC.2.1.2.1
  have ht5 : t ≤ 50 := hC.2.1.1
  have hr1 : gA T 3 1 = nI c := hC.2.2.2.2.1.2.1
  have hr0 : gA T 3 0 = nI t := hC.2.2.2.2.1.1
  unfold wp_X11_dark
  rcases rng a1 0 c (by omega) with b | ⟨j1, g1, h1, rfl⟩
  · exact c_pane_b hw hc3 hc6 b (d_0 ((by unfold wp_X12_dark; exact r_pane_b hr1 hc6 b (d_0 (⟨rfl, h⟩)))))
  have hP1 := (h.1.2.1 _ j1 hw (by omega)).1
  have hQ1 := (h.1.2.1 _ j1 hw (by omega)).2
  have hrc1 := hC.1.2.2.2.2 j1 h1
  have hv1 := hC.2.1.2.2 j1 h1
  have hat1 : At T 0 j1 (0 + 2 + 19 * j1) := ⟨h0, rfl, by omega⟩
  have hrs1 := hC.2.2.2.2.1.2.2 j1 h1
  have hTI : TI n S T V L t c p S := ⟨rfl, h, hC⟩
  refine c_pane_t hw hc3 hc6 h1 (d_1 (?_))
  rw [nI_clamp (by omega)]
  refine nm_e ⟨hw, vp_in_nI (by omega) (by decide), nm_e ⟨hP1, c_copy isPn57 hP1 hQ1 hrc1 fun i a hr => nm_e ⟨hw, nm_r ((hTI.trial hr).td.1) ⟨50 - t + 1, ?_⟩⟩⟩⟩
  refine c_dark_l (S := S) (50 - t) t (p j1) i a (by omega) hr hv1 fun i2 a2 q2 hr2 => ?_
  unfold wp_X12_dark
  refine r_pane_t hr1 hc6 h1 (d_1 (?_))
  refine r_lends0 h0 fun r' hl => ⟨50 - t + 2, ?_⟩
  have hrw := hC.2.2.2.2.1.lent hC.2.1 hl
  exact r_dark_l (T := T) (r0 := gA T 3) hc6 h1 rfl (50 - t) t p r' (by omega) hrw hC.2.1.2.2 hl.1 fun r2 h2 => nm_r (sI_sU (u' := 0) rfl) ⟨rfl, (h.trial hr2).lentU h2⟩
/-! seen -/
def aFD (g : Nat) : Nat → Nat → AP → Nat
  | 0, d, _ => d
  | m + 1, d, q => if aLast q = g then d else aFD g m (d + 1) (aPass d q)
theorem aAt_front (d : Nat) (q : AP) : ∀ x, aAt d q (x + 1) = aAt (d + 1) (aPass d q) x
  | 0 => rfl
  | x + 1 => by
    show aPass (d + (x + 1)) (aAt d q (x + 1)) = aPass (d + 1 + x) (aAt (d + 1) (aPass d q) x)
    rw [aAt_front d q x, show d + (x + 1) = d + 1 + x by omega]
theorem aFD_spec (g : Nat) : ∀ (m d : Nat) (q : AP), ∃ x, x ≤ m ∧ aFD g m d q = d + x ∧ (∀ y, y < x → aLast (aAt d q y) ≠ g) ∧ (x < m → aLast (aAt d q x) = g)
  | 0, d, q => ⟨0, Nat.le_refl _, rfl, fun y hy => absurd hy (by omega), fun hy => absurd hy (by omega)⟩
  | m + 1, d, q => by
    by_cases h : aLast q = g
    · exact ⟨0, by omega, by rw [aFD, if_pos h]; rfl, fun y hy => absurd hy (by omega), fun _ => h⟩
    · obtain ⟨x, h1, h2, h3, h4⟩ := aFD_spec g m (d + 1) (aPass d q)
      refine ⟨x + 1, by omega, ?_, fun y hy => ?_, fun hy => ?_⟩
      · rw [aFD, if_neg h, h2]
        omega
      · cases y with
        | zero => exact h
        | succ y =>
          rw [aAt_front]
          exact h3 y (by omega)
      · rw [aAt_front]
        exact h4 (by omega)
theorem c_first_l {S : St} {g : Nat} {x : Int32} {Q : Int32 → St → Prop} (hg : VE g) (hx : x = eI g) : ∀ (m d : Nat) (q : AP) (i a : Nat → Int32), d + m = 50 → RC i a q → VPa q → (∀ i' a' q', RC i' a' q' → Q (nI (aFD g m d q)) (sP S 57 i' a')) → wl_X11_firstDayOf_24 x Q (fun _ S => Q (50 : Int32) S) (m + 1) (nI d) (sP S 57 i a)
  | 0, d, q, i, a, hd, hr, hv, k => by
    rw [wl_X11_firstDayOf_24]
    have := k _ _ _ hr
    have e : d = 50 := by omega
    rw [aFD, e] at this
    exact d_leT 50 d (by omega) this
  | m + 1, d, q, i, a, hd, hr, hv, k => by
    rw [wl_X11_firstDayOf_24]
    refine d_leF 50 d (by omega) (c_last (S := sP S 57 i a) isPn57 (by rw [gI_sP, gA_sP]; exact hr) hv ?_)
    rw [hx]
    by_cases e : aLast q = g
    · refine br_t (congrArg eI e) ?_
      have := k i a q hr
      rw [aFD, if_pos e] at this
      exact this
    · refine br_f (fun z => e ((eI_eq hv.last hg).mp z)) (c_passDay (S := sP S 57 i a) (p := q) isPn57 (by rw [gI_sP, gA_sP]; exact hr) hv rfl (by omega) fun i2 a2 hr2 => nm_r (nI_1 d) ?_)
      rw [sP_sP, ← hx]
      refine c_first_l hg hx m (d + 1) (aPass d q) i2 a2 (by omega) hr2 (hv.pass (by omega)) fun i3 a3 q3 h3 => ?_
      have := k i3 a3 q3 h3
      rw [aFD, if_neg e] at this
      exact this
section SEEN
variable {n : List Nat} {S0 T : St} {V L : Nat → Nat} {t c g : Nat} {p : Nat → AP} {x y z : Int32}
theorem c_first {j : Nat} {S : St} {Q : Int32 → St → Prop} (h : TI n S0 T V L t c p S) (hj : j < c) (hy : y = nI j) (hg : VE g) (hx : x = eI g) (q : ∀ S', TI n S0 T V L t c p S' → Q (nI (aFD g (50 - t) t (p j))) S') : wp_X11_firstDayOf y x S Q := by
  have hc6 := h.td.2.2
  have ht5 := h.td.2.1
  unfold wp_X11_firstDayOf
  rw [hy, nI_clamp (by omega)]
  refine nm_e ⟨h.w, vp_in_nI (by omega) (by decide), nm_e ⟨(h.pn hj).1, c_copy isPn57 (h.pn hj).1 (h.pn hj).2 (h.rc hj) fun i a hr => nm_e ⟨h.w, nm_r ((h.trial hr).td.1) ⟨50 - t + 1, ?_⟩⟩⟩⟩
  exact c_first_l (S := S) hg hx (50 - t) t (p j) i a (by omega) hr (h.vp hj) fun i' a' q' hr' => q _ (h.trial hr')
/-- what the class has found among the first i panes -/
def SI (fd : Nat → Nat) (i : Nat) (v5 v6 : Int32) : Prop := (v5 = nI 50 ∧ v6 = -1 ∧ ∀ k, k < i → fd k = 50) ∨ ∃ I, I < i ∧ v6 = nI I ∧ v5 = nI (fd I) ∧ fd I < 50 ∧ (∀ k, k < i → fd I ≤ fd k) ∧ ∀ k, k < I → fd I < fd k
theorem c_seen_l {K : Int32 → Int32 → Int32 → St → Prop} {fd : Nat → Nat} (hfd : ∀ j, fd j = aFD g (50 - t) t (p j)) (h50 : ∀ j, fd j ≤ 50) (hg : VE g) (hx : x = eI g) (k : ∀ u v w S', SI fd c u v → TI n S0 T V L t c p S' → K u v w S') : ∀ (m i : Nat) (u v : Int32) (S : St), i + m = c → SI fd i u v → TI n S0 T V L t c p S → wl_X11_seen_42 x K (m + 1) u v (nI i) S
  | 0, i, u, v, S, hi, hs, h => by
    have hc6 := h.td.2.2
    rw [wl_X11_seen_42]
    refine nm_e ⟨h.w, ?_⟩
    rw [h.c3]
    have e : i = c := by omega
    subst e
    exact d_leT i i (Nat.le_refl _) (k _ _ _ _ hs h)
  | m + 1, i, u, v, S, hi, hs, h => by
    have hc6 := h.td.2.2
    rw [wl_X11_seen_42]
    refine nm_e ⟨h.w, ?_⟩
    rw [h.c3]
    refine d_leF c i (by omega) (c_first h (j := i) (by omega) rfl hg hx fun S' hS' => ?_)
    rw [← hfd i]
    have hi50 := h50 i
    rcases hs with ⟨e1, e2, e3⟩ | ⟨I, e1, e2, e3, e4, e5, e6⟩
    · rw [e1]
      refine pk_le 50 (fd i) (fun g1 => nm_r (nI_1 i) (c_seen_l hfd h50 hg hx k m (i + 1) _ _ S' (by omega) (Or.inl ⟨rfl, e2, fun k hk => ?_⟩) hS')) (fun g1 => nm_r (nI_1 i) (c_seen_l hfd h50 hg hx k m (i + 1) _ _ S' (by omega) (Or.inr ⟨i, by omega, rfl, rfl, g1, fun k hk => ?_, fun k hk => ?_⟩) hS'))
      · by_cases e : k = i
        · rw [e]
          omega
        · exact e3 k (by omega)
      · by_cases e : k = i
        · rw [e]
          exact Nat.le_refl _
        · have := e3 k (by omega)
          omega
      · have := e3 k (by omega)
        omega
    · rw [e3]
      refine pk_le (fd I) (fd i) (fun g1 => nm_r (nI_1 i) (c_seen_l hfd h50 hg hx k m (i + 1) _ _ S' (by omega) (Or.inr ⟨I, by omega, e2, rfl, e4, fun k hk => ?_, e6⟩) hS')) (fun g1 => nm_r (nI_1 i) (c_seen_l hfd h50 hg hx k m (i + 1) _ _ S' (by omega) (Or.inr ⟨i, by omega, rfl, rfl, by omega, fun k hk => ?_, fun k hk => ?_⟩) hS'))
      · by_cases e : k = i
        · rw [e]
          exact g1
        · exact e5 k (by omega)
      · by_cases e : k = i
        · rw [e]
          exact Nat.le_refl _
        · have := e5 k (by omega)
          omega
      · have := e5 k (by omega)
        omega
variable {d : Nat} {r r0 : Nat → Int32} {ps : Nat → AP}
theorem r_in_fail {K : Int32 → Int32 → St → Prop} {i m : Nat} (hc : c ≤ 6) (hr : RW r 116 d c ps) (hv : ∀ j, j < c → VPa (ps j)) (hg : VE g) (hx : (10 : Int32) * y + x = eI g) (hi : i < c) (hne : aLast (ps i) ≠ g) (k : wl_X12_seen_57 x y z K m (-3 : Int32) (nI (i + 1)) (sU T 116 r)) : wl_X12_seen_57 x y z K (m + 1) (-3 : Int32) (nI i) (sU T 116 r) := by
  have e1 : gI (sU T 116 r) 0 3 + (1 : Int32) = nI 117 := by
    rw [gI_sU]
    exact nI_add 116 1
  rw [wl_X12_seen_57, e1, nI_clamp (by decide), gA_sU, hr.2.1, hx]
  refine ⟨vp_in_nI (by decide) (by decide), d_leF c i (by omega) (br_f (mI_nle (a := 3) (by decide) (by decide) 0 (by decide)) (ru_last (b := 116 + 2 + 19 * i) rfl (by omega) rfl (hr.2.2 i hi) (hv i hi) (br_f (fun e => hne ((eI_eq (hv i hi).last hg).mp e)) (nm_r (nI_1 i) k))))⟩
theorem r_in_end {K : Int32 → Int32 → St → Prop} {m : Nat} (hc : c ≤ 6) (hr : RW r 116 d c ps) (k : K (-3 : Int32) (nI c) (sU T 116 r)) : wl_X12_seen_57 x y z K (m + 1) (-3 : Int32) (nI c) (sU T 116 r) := by
  have e1 : gI (sU T 116 r) 0 3 + (1 : Int32) = nI 117 := by
    rw [gI_sU]
    exact nI_add 116 1
  rw [wl_X12_seen_57, e1, nI_clamp (by decide), gA_sU, hr.2.1]
  exact ⟨vp_in_nI (by decide) (by decide), d_leT c c (Nat.le_refl _) k⟩
theorem r_in_found {K : Int32 → Int32 → St → Prop} {i w : Nat} (hc : c ≤ 6) (hr : RW r 116 d c ps) (hd : d < 50) (hv : ∀ j, j < c → VPa (ps j)) (hx : (10 : Int32) * y + x = eI g) (hi : i < c) (he : aLast (ps i) = g) (hz : z = nI w) (hw : w < 2) (k : ∀ v, K (nI (if w = 0 then d else i)) v (sU T 116 r)) : wl_X12_seen_57 x y z K 2 (-3 : Int32) (nI i) (sU T 116 r) := by
  have e1 : gI (sU T 116 r) 0 3 + (1 : Int32) = nI 117 := by
    rw [gI_sU]
    exact nI_add 116 1
  have e0 : gI (sU T 116 r) 0 3 + (0 : Int32) = nI 116 := by
    rw [gI_sU]
    exact nI_add 116 0
  have key : ∀ v, v = nI (if w = 0 then d else i) → wl_X12_seen_57 x y z K 1 v (nI (i + 1)) (sU T 116 r) := by
    intro v hv
    rw [hv, wl_X12_seen_57, e1, nI_clamp (by decide), gA_sU, hr.2.1]
    refine ⟨vp_in_nI (by decide) (by decide), pk_le c (i + 1) (fun _ => k _) (fun _ => br_t (nI_pos' (by by_cases h : w = 0 <;> simp [h] <;> omega)) (k _))⟩
  rw [wl_X12_seen_57, e1, nI_clamp (by decide), gA_sU, hr.2.1, hx]
  refine ⟨vp_in_nI (by decide) (by decide), d_leF c i (by omega) (br_f (mI_nle (a := 3) (by decide) (by decide) 0 (by decide)) (ru_last (b := 116 + 2 + 19 * i) rfl (by omega) rfl (hr.2.2 i hi) (hv i hi) (br_t (congrArg eI he) (pk_eq w 0 (fun h => ?_) (fun h => ?_) hz))))⟩
  · rw [e0, nI_clamp (by decide), gA_sU, hr.1]
    exact ⟨vp_in_nI (by decide) (by decide), nm_e (nm_r (nI_1 i) (key _ (by rw [if_pos h])))⟩
  · exact nm_r (nI_1 i) (key _ (by rw [if_neg h]))
theorem r_in_all {K : Int32 → Int32 → St → Prop} {a : Nat} (hc : c ≤ 6) (hr : RW r 116 d c ps) (hv : ∀ j, j < c → VPa (ps j)) (hg : VE g) (hx : (10 : Int32) * y + x = eI g) (ha : a ≤ c) (hne : ∀ k, k < a → aLast (ps k) ≠ g) (k : ∃ m, wl_X12_seen_57 x y z K m (-3 : Int32) (nI a) (sU T 116 r)) : ∀ (m i : Nat), i + m = a → ∃ m, wl_X12_seen_57 x y z K m (-3 : Int32) (nI i) (sU T 116 r)
  | 0, i, hi => by
    have e : i = a := by omega
    rw [e]
    exact k
  | m + 1, i, hi => by
    obtain ⟨m', h⟩ := r_in_all hc hr hv hg hx ha hne k m (i + 1) (by omega)
    exact ⟨m' + 1, r_in_fail hc hr hv hg hx (by omega) (hne i (by omega)) h⟩
theorem r_seen_none {K : Int32 → St → Prop} (hc : c ≤ 6) (hg : VE g) (hx : (10 : Int32) * y + x = eI g) : ∀ (m d : Nat) (ps : Nat → AP) (r : Nat → Int32), d + m = 50 → RW r 116 d c ps → (∀ j, j < c → VPa (ps j)) → (∀ u, u < m → ∀ k, k < c → aLast (aAt d (ps k) u) ≠ g) → (∀ j, j < 116 → r j = r0 j) → (∀ r', (∀ j, j < 116 → r' j = r0 j) → K (-3 : Int32) (sU T 116 r')) → wl_X12_seen_33 x y z K (m + 2) (-3 : Int32) (sU T 116 r)
  | 0, d, ps, r, hd, hr, hv, hne, h2, k => by
    have e0 : gI (sU T 116 r) 0 3 + (0 : Int32) = nI 116 := by
      rw [gI_sU]
      exact nI_add 116 0
    rw [wl_X12_seen_33, e0, nI_clamp (by decide), gA_sU, hr.1]
    exact br_f (mI_nle (a := 3) (by decide) (by decide) 0 (by decide)) ⟨vp_in_nI (by decide) (by decide), d_leT 50 d (by omega) (k r h2)⟩
  | m + 1, d, ps, r, hd, hr, hv, hne, h2, k => by
    have e0 : gI (sU T 116 r) 0 3 + (0 : Int32) = nI 116 := by
      rw [gI_sU]
      exact nI_add 116 0
    rw [wl_X12_seen_33, e0, nI_clamp (by decide), gA_sU, hr.1]
    refine br_f (mI_nle (a := 3) (by decide) (by decide) 0 (by decide)) ⟨vp_in_nI (by decide) (by decide), d_leF 50 d (by omega) (r_in_all (a := c) hc hr hv hg hx (Nat.le_refl _) (fun j hj => hne 0 (by omega) j hj) ⟨1, r_in_end hc hr ?_⟩ c 0 (by omega))⟩
    refine r_dayGoes (by omega) hc (by decide) hv hr fun r' hr' ho => ?_
    exact r_seen_none hc hg hx m (d + 1) _ r' (by omega) hr' (fun i hi => (hv i hi).pass (by omega)) (fun u hu j hj => by rw [← aAt_front]; exact hne (u + 1) (by omega) j hj) (fun i hi => by rw [ho i (by omega)]; exact h2 i hi) k
theorem r_seen_one {K : Int32 → St → Prop} {D I w : Nat} (hc : c ≤ 6) (hg : VE g) (hx : (10 : Int32) * y + x = eI g) (hD : D < 50) (hI : I < c) (hz : z = nI w) (hw : w < 2) : ∀ (m d : Nat) (ps : Nat → AP) (r : Nat → Int32), d + m = D → RW r 116 d c ps → (∀ j, j < c → VPa (ps j)) → (∀ u, u < m → ∀ k, k < c → aLast (aAt d (ps k) u) ≠ g) → (∀ k, k < I → aLast (aAt d (ps k) m) ≠ g) → aLast (aAt d (ps I) m) = g → (∀ j, j < 116 → r j = r0 j) → (∀ r', (∀ j, j < 116 → r' j = r0 j) → K (nI (if w = 0 then D else I)) (sU T 116 r')) → wl_X12_seen_33 x y z K (m + 2) (-3 : Int32) (sU T 116 r)
  | 0, d, ps, r, hd, hr, hv, hne, hne2, heq, h2, k => by
    have e0 : gI (sU T 116 r) 0 3 + (0 : Int32) = nI 116 := by
      rw [gI_sU]
      exact nI_add 116 0
    rw [wl_X12_seen_33, e0, nI_clamp (by decide), gA_sU, hr.1]
    refine br_f (mI_nle (a := 3) (by decide) (by decide) 0 (by decide)) ⟨vp_in_nI (by decide) (by decide), d_leF 50 d (by omega) (r_in_all (a := I) hc hr hv hg hx (by omega) hne2 ⟨2, r_in_found hc hr (by omega) hv hx hI heq hz hw fun v => ?_⟩ I 0 (by omega))⟩
    refine r_dayGoes (by omega) hc (by decide) hv hr fun r' hr' ho => ?_
    have e : d = D := by omega
    rw [wl_X12_seen_33, e]
    exact br_t (nI_pos' (by by_cases h : w = 0 <;> simp [h] <;> omega)) (k r' (fun i hi => by rw [ho i (by omega)]; exact h2 i hi))
  | m + 1, d, ps, r, hd, hr, hv, hne, hne2, heq, h2, k => by
    have e0 : gI (sU T 116 r) 0 3 + (0 : Int32) = nI 116 := by
      rw [gI_sU]
      exact nI_add 116 0
    rw [wl_X12_seen_33, e0, nI_clamp (by decide), gA_sU, hr.1]
    refine br_f (mI_nle (a := 3) (by decide) (by decide) 0 (by decide)) ⟨vp_in_nI (by decide) (by decide), d_leF 50 d (by omega) (r_in_all (a := c) hc hr hv hg hx (Nat.le_refl _) (fun j hj => hne 0 (by omega) j hj) ⟨1, r_in_end hc hr ?_⟩ c 0 (by omega))⟩
    refine r_dayGoes (by omega) hc (by decide) hv hr fun r' hr' ho => ?_
    exact r_seen_one hc hg hx hD hI hz hw m (d + 1) _ r' (by omega) hr' (fun i hi => (hv i hi).pass (by omega)) (fun u hu j hj => by rw [← aAt_front]; exact hne (u + 1) (by omega) j hj) (fun j hj => by rw [← aAt_front]; exact hne2 j hj) (by rw [← aAt_front]; exact heq) (fun i hi => by rw [ho i (by omega)]; exact h2 i hi) k
end SEEN
theorem st_seen : step_seen Rel := by
  intro n S T a1 a2 a3 hn h
  have hw := h.1.w
  have h0 := h.2.2.1
  obtain ⟨V, L, t, c, p, hC⟩ := h.2.2.2.1
  have hc3 : gI S (gN S 0 8) 3 = nI c := hC.1.2.2.1
  have ht4 : gI S (gN S 0 8) 4 = nI t := hC.1.2.2.2.1
  have hc6 : c ≤ 6 := hC.2.1.2.1
  have ht5 : t ≤ 50 := hC.2.1.1
  have hr1 : gA T 3 1 = nI c := hC.2.2.2.2.1.2.1
  have hr0 : gA T 3 0 = nI t := hC.2.2.2.2.1.1
  unfold wp_X11_seen
  rcases rng a1 0 4 (by omega) with b | ⟨j1, g1, h1, rfl⟩
  · exact c_place_b b (d_0 ((by unfold wp_X12_seen; exact r_place_b b (d_0 (⟨rfl, h⟩)))))
  rcases rng a2 0 50 (by omega) with b | ⟨j2, g2, h2, rfl⟩
  · exact c_place_t h1 (d_1 (c_day_b b (d_0 ((by unfold wp_X12_seen; exact r_place_t h1 (d_1 (r_day_b b (d_0 (⟨rfl, h⟩)))))))))
  rcases rng a3 0 2 (by omega) with b | ⟨j3, g3, h3, rfl⟩
  · exact c_place_t h1 (d_1 (c_day_t h2 (d_1 (g2_b (M := 1) b (by unfold wp_X12_seen; exact r_place_t h1 (d_1 (r_day_t h2 (d_1 (r_in_b (M := 1) b (d_0 (⟨rfl, h⟩)))))))))))
  have hTI : TI n S T V L t c p S := ⟨rfl, h, hC⟩
  refine c_place_t h1 (d_1 (c_day_t h2 (d_1 (g2_t (M := 1) g3 h3 (?_)))))
  unfold wp_X11_glimpseOf
  have eg : (10 : Int32) * nI j2 + nI j1 = eI (10 * j2 + j1) := by
    rw [eI_n (by omega)]
    show nI 10 * nI j2 + nI j1 = _
    rw [pk_mul, nI_add]
  have hg : VE (10 * j2 + j1) := Or.inr ⟨by omega, by omega⟩
  have sp : ∀ j, ∃ x, x ≤ 50 - t ∧ aFD (10 * j2 + j1) (50 - t) t (p j) = t + x ∧ (∀ y, y < x → aLast (aAt t (p j) y) ≠ 10 * j2 + j1) ∧ (x < 50 - t → aLast (aAt t (p j) x) = 10 * j2 + j1) := fun j => aFD_spec _ _ _ _
  refine ⟨c + 1, c_seen_l (g := 10 * j2 + j1) (fd := fun j => aFD (10 * j2 + j1) (50 - t) t (p j)) (fun _ => rfl) (fun j => ?_) hg eg (fun u v w S' hs hS' => ?_) c 0 _ _ S (by omega) (Or.inl ⟨rfl, rfl, fun k hk => absurd hk (by omega)⟩) hTI⟩
  · obtain ⟨x, h1, h2, -⟩ := sp j
    show aFD (10 * j2 + j1) (50 - t) t (p j) ≤ 50
    omega
  · rcases hs with ⟨e1, e2, e3⟩ | ⟨I, e1, e2, e3, e4, e5, e6⟩
    · refine br_t e2 ?_
      unfold wp_X12_seen
      refine r_place_t h1 (d_1 (r_day_t h2 (d_1 (r_in_t (M := 1) g3 h3 (d_1 (?_))))))
      refine r_lends0 h0 fun r' hl => ⟨50 - t + 2, ?_⟩
      have hrw := hC.2.2.2.2.1.lent hC.2.1 hl
      refine r_seen_none (g := 10 * j2 + j1) (r0 := gA T 3) hc6 hg eg (50 - t) t p r' (by omega) hrw hC.2.1.2.2 (fun u hu k hk => ?_) hl.1 fun r2 h2 => nm_r (sI_sU (u' := 0) rfl) ⟨rfl, hS'.2.1.lentU h2⟩
      obtain ⟨x, q1, q2, q3, -⟩ := sp k
      have e4 : aFD (10 * j2 + j1) (50 - t) t (p k) = 50 := e3 k hk
      exact q3 u (by omega)
    · have e4' : aFD (10 * j2 + j1) (50 - t) t (p I) < 50 := e4
      have e3' : u = nI (aFD (10 * j2 + j1) (50 - t) t (p I)) := e3
      obtain ⟨x, q1, q2, q3, q4⟩ := sp I
      have hfin : wp_X12_seen (nI j1) (nI j2) (nI j3) T (fun r1 T1 => nI (if j3 = 0 then t + x else I) = r1 ∧ Rel n S' T1) := by
        unfold wp_X12_seen
        refine r_place_t h1 (d_1 (r_day_t h2 (d_1 (r_in_t (M := 1) g3 h3 (d_1 (?_))))))
        refine r_lends0 h0 fun r' hl => ⟨x + 2, ?_⟩
        have hrw := hC.2.2.2.2.1.lent hC.2.1 hl
        refine r_seen_one (g := 10 * j2 + j1) (D := t + x) (I := I) (w := j3) (r0 := gA T 3) hc6 hg eg (by omega) e1 rfl h3 x t p r' rfl hrw hC.2.1.2.2 (fun u hu k hk => ?_) (fun k hk => ?_) (q4 (by omega)) hl.1 fun r2 h2 => nm_r (sI_sU (u' := 0) rfl) ⟨rfl, hS'.2.1.lentU h2⟩
        · obtain ⟨x2, w1, w2, w3, -⟩ := sp k
          have e7 : aFD (10 * j2 + j1) (50 - t) t (p I) ≤ aFD (10 * j2 + j1) (50 - t) t (p k) := e5 k hk
          exact w3 u (by omega)
        · obtain ⟨x2, w1, w2, w3, -⟩ := sp k
          have e7 : aFD (10 * j2 + j1) (50 - t) t (p I) < aFD (10 * j2 + j1) (50 - t) t (p k) := e6 k hk
          exact w3 x (by omega)
      refine br_f (fun z => ?_) (pk_eq j3 0 (fun z => ?_) (fun z => ?_))
      · rw [e2] at z
        exact mI_ne (a := 1) (by decide) (by decide) I (by omega) z.symm
      · rw [if_pos z] at hfin
        rw [e3', q2]
        exact hfin
      · rw [if_neg z] at hfin
        rw [e2]
        exact hfin
