/-! THE CLASS'S PANES: what each of their methods does to the abstract pane. -/
theorem c_glimpseAt {P j : Nat} {x : Int32} {S : St} {p : AP} {Q : Int32 → St → Prop} (hP : isPn P) (h : RC (gI S P) (gA S (P + 1)) p) (hx : x = nI j) (hj : j < p.2.1) (hp : p.2.1 ≤ 16) (q : Q (eI (p.2.2.2 j)) S) : wp_X3_glimpseAt P x S Q := by
  obtain ⟨-, -, -, fc, hf, h1, h2⟩ := h
  have e : (gI S P 1 + x) &&& (15 : Int32) = nI ((fc + j) % 16) := by
    rw [h1, hx, nI_add]
    exact pk_andN (by omega) 4 (by decide)
  unfold wp_X3_glimpseAt
  rw [e, nI_clamp (by omega), h2 j hj]
  exact ⟨hP, vp_in_nI (by omega) (by decide), q⟩
theorem c_put {P j fc : Nat} {x v : Int32} {S : St} {Q : St → Prop} (hP : isPn P) (hf : fc < 16) (h1 : gI S P 1 = nI fc) (hx : x = nI j) (hj : j < 1000) (q : Q (sA S (P + 1) ((fc + j) % 16) v)) : wp_X3_putGlimpse P x v S Q := by
  have e : (gI S P 1 + x) &&& (15 : Int32) = nI ((fc + j) % 16) := by
    rw [h1, hx, nI_add]
    exact pk_andN (by omega) 4 (by decide)
  unfold wp_X3_putGlimpse
  rw [e, nI_clamp (by omega)]
  exact ⟨hP, vp_in_nI (by omega) (by decide), nm_e q⟩
theorem c_become_l {P n fc : Nat} {i : Nat → Int32} {x : Int32} (hP : isPn P) (hf : fc < 16) (hn : n ≤ 16) (hi : i 1 = nI fc) (hx : x = nI n) {K : Int32 → St → Prop} {S : St} (q : ∀ y a', (∀ j, j < n → a' ((fc + j) % 16) = mI 9) → K y (sP S P i a')) : ∀ (m k : Nat) (a : Nat → Int32), k + m = n → (∀ j, j < k → a ((fc + j) % 16) = mI 9) → wl_X3_become_17 P x K (m + 1) (nI k) (sP S P i a)
  | 0, k, a, hk, ha => by
    rw [wl_X3_become_17]
    exact d_leT n k (by omega) (q _ _ (by rw [← hk]; exact ha)) hx
  | m + 1, k, a, hk, ha => by
    rw [wl_X3_become_17]
    refine d_leF n k (by omega) (c_put (j := k) hP hf (by rw [gI_sP]; exact hi) rfl (by omega) ?_) hx
    refine nm_r (nI_1 k) ?_
    rw [sA_sP]
    refine c_become_l hP hf hn hi hx q m (k + 1) _ (by omega) fun j hj => ?_
    by_cases h : j = k
    · subst h
      exact u1_s
    · rw [u1_n (by omega)]
      exact ha j (by omega)
theorem c_become {P k n fc : Nat} {x y : Int32} {S : St} {Q : St → Prop} (hP : isPn P) (hf : fc < 16) (h1 : gI S P 1 = nI fc) (hx : x = nI k) (hy : y = nI n) (hn : n ≤ 16) (q : ∀ i a, RC i a (k, n, 4, fun _ => 500) → Q (sP S P i a)) : wp_X3_become P x y S Q := by
  unfold wp_X3_become
  refine ⟨hP, nm_e (nm_e (nm_e ⟨n + 1, ?_⟩))⟩
  rw [sI_P (S := S) (k := 2), sI_sP, sI_sP]
  refine c_become_l (k := 0) (fc := fc) hP hf hn (by rw [u1_n (by decide), u1_n (by decide), u1_n (by decide)]; exact h1) hy (fun z a' ha => q _ _ ⟨?_, ?_, ?_, fc, hf, ?_, fun j hj => ?_⟩) n _ (by omega) (fun j hj => absurd hj (by omega))
  · rw [u1_n (by decide), u1_n (by decide), u1_s, hx]
  · rw [u1_n (by decide), u1_s, hy]
  · rw [u1_s]
    rfl
  · rw [u1_n (by decide), u1_n (by decide), u1_n (by decide)]
    exact h1
  · rw [ha j hj]
    exact eI_d.symm
theorem c_copy {P o : Nat} {S : St} {p : AP} {Q : St → Prop} (hP : isPn P) (ho : isPn o) (hne : o ≠ P) (h : RC (gI S o) (gA S (o + 1)) p) (q : ∀ i a, RC i a p → Q (sP S P i a)) : wp_X3_copyFrom P o S Q := by
  unfold wp_X3_copyFrom
  refine ⟨hP, ho, nm_e (nm_e (nm_e (nm_e (nm_e ?_))))⟩
  rw [sI_P (S := S) (k := 2), gI_sPn hne, sI_sP, gI_sPn hne, sI_sP, gI_sPn hne, sI_sP, gA_sPn (by omega), gA_sP, sR_sP]
  obtain ⟨h2, h3, h4, fc, hf, h1, ha⟩ := h
  refine q _ _ ⟨?_, ?_, ?_, fc, hf, ?_, fun j hj => ?_⟩
  · rw [u1_n (by decide), u1_n (by decide), u1_n (by decide), u1_s]
    exact h2
  · rw [u1_n (by decide), u1_n (by decide), u1_s]
    exact h3
  · rw [u1_n (by decide), u1_s]
    exact h4
  · rw [u1_s]
    exact h1
  · rw [pk_cpy_in (Nat.zero_le _) (by omega), Nat.sub_zero, Nat.zero_add]
    exact ha j hj
theorem c_placeTold {P : Nat} {S : St} {p : AP} {Q : Int32 → St → Prop} (hP : isPn P) (h : RC (gI S P) (gA S (P + 1)) p) (hp : VPa p) (q : Q (if p.2.2.1 = 4 then (-9 : Int32) else nI p.2.2.1) S) : wp_X3_placeTold P S Q := by
  have h4 := hp.2.2.2.1
  unfold wp_X3_placeTold
  rw [h.2.2.1]
  refine ⟨hP, pk_eq p.2.2.1 4 (fun e => ?_) (fun e => ?_)⟩
  · rw [if_pos e] at q
    exact q
  · rw [if_neg e] at q
    exact q
theorem c_last {P : Nat} {S : St} {p : AP} {Q : Int32 → St → Prop} (hP : isPn P) (h : RC (gI S P) (gA S (P + 1)) p) (hp : VPa p) (q : Q (eI (p.2.2.2 (p.2.1 - 1))) S) : wp_X3_last P S Q := by
  have h1 := hp.2.1
  have h2 := hp.2.2.1
  exact ⟨hP, c_glimpseAt (j := p.2.1 - 1) hP h (by rw [h.2.1]; exact pk_sub (b := 1) h1) (by omega) h2 q⟩
def aAhead (p : AP) : Nat := if 2 ≤ p.2.1 then p.2.2.2 (p.2.1 - 2) else 500
theorem VPa.last {p : AP} (h : VPa p) : VE (p.2.2.2 (p.2.1 - 1)) := h.2.2.2.2 _ (by have := h.2.1; omega)
theorem VPa.ahead {p : AP} (h : VPa p) : VE (aAhead p) := by
  unfold aAhead
  by_cases h2 : 2 ≤ p.2.1
  · rw [if_pos h2]
    exact h.2.2.2.2 _ (by omega)
  · rw [if_neg h2]
    exact Or.inl rfl
theorem c_ahead {P : Nat} {S : St} {p : AP} {Q : Int32 → St → Prop} (hP : isPn P) (h : RC (gI S P) (gA S (P + 1)) p) (hp : VPa p) (q : Q (eI (aAhead p)) S) : wp_X3_aheadOfLast P S Q := by
  have h2 := hp.2.2.1
  unfold wp_X3_aheadOfLast
  unfold aAhead at q
  rw [h.2.1]
  refine ⟨hP, pk_le 2 p.2.1 (fun e => ?_) (fun e => ?_)⟩
  · rw [if_pos e] at q
    exact c_glimpseAt (j := p.2.1 - 2) hP h (pk_sub (b := 2) e) (by omega) h2 q
  · rw [if_neg (by omega)] at q
    exact q
theorem c_movesOn {P d : Nat} {x : Int32} {S : St} {p : AP} {Q : Int32 → St → Prop} (hP : isPn P) (h : RC (gI S P) (gA S (P + 1)) p) (hp : VPa p) (hx : x = nI d) (hd : d < 1000) (q1 : aMv p.1 d → Q 1 S) (q0 : ¬ aMv p.1 d → Q 0 S) : wp_X3_movesOn P x S Q := by
  have hk := hp.1
  subst hx
  unfold wp_X3_movesOn
  rw [h.1]
  have e2 : nI d - nI d / (2 : Int32) * (2 : Int32) = nI (d % 2) := pk_rem (d := 2) (by omega) (by omega) (by omega)
  have e4 : nI d - nI d / (4 : Int32) * (4 : Int32) = nI (d % 4) := pk_rem (d := 4) (by omega) (by omega) (by omega)
  rw [e2, e4]
  exact ⟨hP, pk_eq p.1 1 (fun a => pk_eq (d % 2) 0 (fun b => q1 ⟨fun _ => b, fun z => by omega⟩) (fun b => q0 fun z => b (z.1 a))) (fun a => pk_eq p.1 2 (fun b => pk_eq (d % 4) 0 (fun e => q1 ⟨fun z => absurd z a, fun _ => e⟩) (fun e => q0 fun z => e (z.2 b))) (fun b => q1 ⟨fun z => absurd z a, fun z => absurd z b⟩))⟩
theorem p_face : ∀ fc, fc < 16 → (nI fc - (1 : Int32)) &&& (15 : Int32) = nI ((fc + 15) % 16) := by decide +kernel
theorem c_passDay {P d : Nat} {x : Int32} {S : St} {p : AP} {Q : St → Prop} (hP : isPn P) (h : RC (gI S P) (gA S (P + 1)) p) (hp : VPa p) (hx : x = nI d) (hd : d < 50) (q : ∀ i a, RC i a (aPass d p) → Q (sP S P i a)) : wp_X3_passDay P x S Q := by
  unfold wp_X3_passDay
  refine ⟨hP, c_movesOn hP h hp hx (by omega) (fun hm => d_1 (nm_e ?_)) (fun hm => d_0 ?_)⟩
  · obtain ⟨h2, h3, h4, fc, hf, h1, ha⟩ := h
    have hpl := hp.2.2.2.1
    have hn := hp.2.2.1
    rw [h1, p_face fc hf, sI_P]
    have key : ∀ v, v = eI (aNew p.2.2.1 d) → Q (sA (sP S P (up1 (gI S P) 1 (nI ((fc + 15) % 16))) (gA S (P + 1))) (P + 1) (((fc + 15) % 16 + 0) % 16) v) := by
      intro v hv
      rw [sA_sP]
      refine q _ _ ?_
      unfold aPass
      rw [if_pos hm]
      refine ⟨?_, ?_, ?_, (fc + 15) % 16, by omega, u1_s, fun j hj => ?_⟩
      · rw [u1_n (by decide)]
        exact h2
      · rw [u1_n (by decide)]
        exact h3
      · rw [u1_n (by decide)]
        exact h4
      · have hj' : j < p.2.1 := hj
        show up1 (gA S (P + 1)) (((fc + 15) % 16 + 0) % 16) v (((fc + 15) % 16 + j) % 16) = eI (if j = 0 then aNew p.2.2.1 d else p.2.2.2 (j - 1))
        by_cases hj0 : j = 0
        · subst hj0
          rw [if_pos rfl, u1_s]
          exact hv
        · rw [if_neg hj0, u1_n (by omega)]
          have e : ((fc + 15) % 16 + j) % 16 = (fc + (j - 1)) % 16 := by omega
          rw [e]
          exact ha _ (by omega)
    rw [gI_sP]
    refine pk_eq p.2.2.1 4 (fun e => ?_) (fun e => ?_) (by rw [u1_n (by decide)]; exact h4)
    · exact c_put hP (by omega) (by rw [gI_sP]; exact u1_s) (j := 0) rfl (by decide) (key _ (by unfold aNew; rw [if_pos e]; exact eI_d.symm))
    · unfold wp_X11_glimpseOf
      refine c_put hP (by omega) (by rw [gI_sP]; exact u1_s) (j := 0) rfl (by decide) (key _ ?_)
      unfold aNew
      rw [if_neg e, eI_n (by omega), u1_n (by decide), h4, hx]
      show nI 10 * nI d + nI p.2.2.1 = _
      rw [pk_mul, nI_add]
  · have := q (gI S P) (gA S (P + 1)) (by unfold aPass; rw [if_neg hm]; exact h)
    rw [sP_self] at this
    exact this
