/-! cut, lay, turn on the class's panes -/
def aCutB (k : Nat) (p : AP) : AP := (0, p.2.1 - k, 4, fun j => p.2.2.2 (k + j))
def aCutA (k : Nat) (p : AP) : AP := (p.1, k, p.2.2.1, p.2.2.2)
def aJoin (p q : AP) : AP := (p.1, p.2.1 + q.2.1, p.2.2.1, fun j => if j < p.2.1 then p.2.2.2 j else q.2.2.2 (j - p.2.1))
def aTurn (p : AP) : AP := (p.1, p.2.1, p.2.2.1, fun j => p.2.2.2 (p.2.1 - 1 - j))
theorem VPa.cutB {p : AP} (h : VPa p) {k : Nat} (hk : k < p.2.1) : VPa (aCutB k p) := by
  obtain ⟨h1, h2, h3, h4, h5⟩ := h
  exact ⟨(by decide : 0 < 6), (by omega : 1 ≤ p.2.1 - k), (by omega : p.2.1 - k ≤ 16), (by decide : 4 ≤ 4), fun j (hj : j < p.2.1 - k) => h5 _ (by omega)⟩
theorem VPa.cutA {p : AP} (h : VPa p) {k : Nat} (h0 : 1 ≤ k) (hk : k < p.2.1) : VPa (aCutA k p) := by
  obtain ⟨h1, h2, h3, h4, h5⟩ := h
  exact ⟨h1, h0, (by omega : k ≤ 16), h4, fun j (hj : j < k) => h5 _ (by omega)⟩
theorem VPa.join {p q : AP} (h : VPa p) (h' : VPa q) (hs : p.2.1 + q.2.1 ≤ 16) : VPa (aJoin p q) := by
  obtain ⟨h1, h2, h3, h4, h5⟩ := h
  refine ⟨h1, (by omega : 1 ≤ p.2.1 + q.2.1), hs, h4, fun j (hj : j < p.2.1 + q.2.1) => ?_⟩
  show VE (if j < p.2.1 then p.2.2.2 j else q.2.2.2 (j - p.2.1))
  by_cases h : j < p.2.1
  · rw [if_pos h]
    exact h5 j h
  · rw [if_neg h]
    exact h'.2.2.2.2 _ (by omega)
theorem VPa.turn {p : AP} (h : VPa p) : VPa (aTurn p) := by
  obtain ⟨h1, h2, h3, h4, h5⟩ := h
  exact ⟨h1, h2, h3, h4, fun j (hj : j < p.2.1) => h5 _ (by omega)⟩
theorem VPa.hang {p : AP} (h : VPa p) {pl : Nat} (hpl : pl ≤ 4) : VPa (p.1, p.2.1, pl, p.2.2.2) := ⟨h.1, h.2.1, h.2.2.1, hpl, h.2.2.2.2⟩
theorem VPa.cast {p : AP} (h : VPa p) {k : Nat} (hk : k < 6) : VPa (k, p.2.1, p.2.2.1, p.2.2.2) := ⟨hk, h.2⟩
theorem VPa.new {k n : Nat} (hk : k < 6) (h1 : 1 ≤ n) (h : n ≤ 16) : VPa (k, n, 4, fun _ => 500) := ⟨hk, h1, h, (by decide : 4 ≤ 4), fun _ _ => Or.inl rfl⟩
theorem c_behind_l {P o k n fc : Nat} {p : AP} {x : Int32} {i : Nat → Int32} {S : St} {K : Int32 → St → Prop} (hP : isPn P) (ho : isPn o) (hne : o ≠ P) (h : RC (gI S o) (gA S (o + 1)) p) (hp : p.2.1 ≤ 16) (hx : x = nI k) (hn : k + n = p.2.1) (hf : fc < 16) (hi : i 1 = nI fc) (hi3 : i 3 = nI n) (q : ∀ y a', (∀ j, j < n → a' ((fc + j) % 16) = eI (p.2.2.2 (k + j))) → K y (sP S P i a')) : ∀ (m c : Nat) (a : Nat → Int32), c + m = n → (∀ j, j < c → a ((fc + j) % 16) = eI (p.2.2.2 (k + j))) → wl_X3_becomeBehind_13 P o x K (m + 1) (nI c) (sP S P i a)
  | 0, c, a, hc, ha => by
    rw [wl_X3_becomeBehind_13]
    exact d_leT n c (by omega) (q _ _ (by rw [← hc]; exact ha)) (by rw [gI_sP]; exact hi3)
  | m + 1, c, a, hc, ha => by
    rw [wl_X3_becomeBehind_13]
    refine d_leF n c (by omega) ?_ (by rw [gI_sP]; exact hi3)
    refine c_glimpseAt (j := k + c) ho (by rw [gI_sPn hne, gA_sPn (by omega)]; exact h) (by rw [hx]; exact nI_add k c) (by omega) hp ?_
    refine c_put (j := c) hP hf (by rw [gI_sP]; exact hi) rfl (by omega) ?_
    refine nm_r (nI_1 c) ?_
    rw [sA_sP]
    refine c_behind_l hP ho hne h hp hx hn hf hi hi3 q m (c + 1) _ (by omega) fun j hj => ?_
    by_cases hjc : j = c
    · subst hjc
      exact u1_s
    · rw [u1_n (by omega)]
      exact ha j (by omega)
theorem c_behind {P o k fc : Nat} {p : AP} {x : Int32} {S : St} {Q : St → Prop} (hP : isPn P) (ho : isPn o) (hne : o ≠ P) (h : RC (gI S o) (gA S (o + 1)) p) (hp : VPa p) (hx : x = nI k) (hk : k < p.2.1) (hf : fc < 16) (h1 : gI S P 1 = nI fc) (q : ∀ i a, RC i a (aCutB k p) → Q (sP S P i a)) : wp_X3_becomeBehind P o x S Q := by
  have hn := hp.2.2.1
  unfold wp_X3_becomeBehind
  refine ⟨hP, ho, c_become (k := 0) (n := p.2.1 - k) hP hf h1 rfl (by rw [h.2.1, hx]; exact pk_sub (by omega)) (by omega) fun i a hr => ⟨p.2.1 - k + 1, ?_⟩⟩
  obtain ⟨r2, r3, r4, fc', hf', r1, ra⟩ := hr
  exact c_behind_l (k := k) (n := p.2.1 - k) hP ho hne h hn hx (by omega) hf' r1 r3 (fun y a' ha' => q i a' ⟨r2, r3, r4, fc', hf', r1, ha'⟩) (p.2.1 - k) 0 a (by omega) (fun j hj => absurd hj (by omega))
theorem c_append_l {P o fc : Nat} {p q : AP} {i : Nat → Int32} {S : St} {K : Int32 → St → Prop} (hP : isPn P) (ho : isPn o) (hne : o ≠ P) (hq : RC (gI S o) (gA S (o + 1)) q) (hqn : q.2.1 ≤ 16) (hs : p.2.1 + q.2.1 ≤ 16) (hf : fc < 16) (hi : i 1 = nI fc) (hi3 : i 3 = nI p.2.1) (k : ∀ y a', (∀ j, j < p.2.1 + q.2.1 → a' ((fc + j) % 16) = eI ((aJoin p q).2.2.2 j)) → K y (sP S P i a')) : ∀ (m c : Nat) (a : Nat → Int32), c + m = q.2.1 → (∀ j, j < p.2.1 + c → a ((fc + j) % 16) = eI ((aJoin p q).2.2.2 j)) → wl_X3_append_2 P o K (m + 1) (nI c) (sP S P i a)
  | 0, c, a, hc, ha => by
    rw [wl_X3_append_2]
    exact d_leT q.2.1 c (by omega) (k _ _ (by rw [← hc]; exact ha)) (by rw [gI_sPn hne]; exact hq.2.1)
  | m + 1, c, a, hc, ha => by
    rw [wl_X3_append_2]
    refine d_leF q.2.1 c (by omega) ?_ (by rw [gI_sPn hne]; exact hq.2.1)
    refine c_glimpseAt (j := c) ho (by rw [gI_sPn hne, gA_sPn (by omega)]; exact hq) rfl (by omega) hqn ?_
    refine c_put (j := p.2.1 + c) hP hf (by rw [gI_sP]; exact hi) (by rw [gI_sP, hi3]; exact nI_add _ _) (by omega) ?_
    refine nm_r (nI_1 c) ?_
    rw [sA_sP]
    refine c_append_l hP ho hne hq hqn hs hf hi hi3 k m (c + 1) _ (by omega) fun j hj => ?_
    by_cases hjc : j = p.2.1 + c
    · subst hjc
      rw [u1_s]
      show eI (q.2.2.2 c) = eI (if p.2.1 + c < p.2.1 then _ else q.2.2.2 (p.2.1 + c - p.2.1))
      rw [if_neg (by omega), Nat.add_sub_cancel_left]
    · rw [u1_n (by omega)]
      exact ha j (by omega)
theorem c_append {P o : Nat} {p q : AP} {S : St} {Q : St → Prop} (hP : isPn P) (ho : isPn o) (hne : o ≠ P) (h : RC (gI S P) (gA S (P + 1)) p) (hq : RC (gI S o) (gA S (o + 1)) q) (hqn : q.2.1 ≤ 16) (hs : p.2.1 + q.2.1 ≤ 16) (k : ∀ i a, RC i a (aJoin p q) → Q (sP S P i a)) : wp_X3_append P o S Q := by
  obtain ⟨h2, h3, h4, fc, hf, h1, ha⟩ := h
  unfold wp_X3_append
  refine ⟨hP, ho, q.2.1 + 1, ?_⟩
  have e : S = sP S P (gI S P) (gA S (P + 1)) := sP_self.symm
  rw [e]
  refine c_append_l (p := p) (q := q) (S := S) hP ho hne hq hqn hs hf h1 h3 (fun y a' ha' => nm_e ?_) q.2.1 0 _ (by omega) fun j hj => ?_
  · rw [gI_sP, gI_sPn hne, h3, hq.2.1, sI_sP, nI_add]
    refine k _ _ ⟨?_, u1_s, ?_, fc, hf, ?_, ha'⟩
    · rw [u1_n (by decide)]
      exact h2
    · rw [u1_n (by decide)]
      exact h4
    · rw [u1_n (by decide)]
      exact h1
  · show gA S (P + 1) _ = eI (if j < p.2.1 then p.2.2.2 j else _)
    rw [if_pos (show j < p.2.1 from hj)]
    exact ha j hj
theorem c_turn_l {P fc : Nat} {p : AP} {i : Nat → Int32} {S : St} {K : Int32 → Int32 → St → Prop} (hP : isPn P) (hp : VPa p) (hf : fc < 16) (h2 : i 2 = nI p.1) (h3 : i 3 = nI p.2.1) (h4 : i 4 = nI p.2.2.1) (h1 : i 1 = nI fc) (q : ∀ y z a', (∀ j, j < p.2.1 → a' ((fc + j) % 16) = eI (p.2.2.2 (p.2.1 - 1 - j))) → K y z (sP S P i a')) : ∀ (m c : Nat) (a : Nat → Int32), p.2.1 - 1 - 2 * c ≤ m → 2 * c ≤ p.2.1 → (∀ j, j < p.2.1 → a ((fc + j) % 16) = eI (if j < c ∨ p.2.1 - 1 < j + c then p.2.2.2 (p.2.1 - 1 - j) else p.2.2.2 j)) → wl_X3_turnAbout_9 P K (m + 1) (nI c) (nI (p.2.1 - 1 - c)) (sP S P i a) := by
  have hn := hp.2.2.1
  have hn1 := hp.2.1
  have out : ∀ (m c : Nat) (a : Nat → Int32), p.2.1 - 1 ≤ 2 * c → 2 * c ≤ p.2.1 → (∀ j, j < p.2.1 → a ((fc + j) % 16) = eI (if j < c ∨ p.2.1 - 1 < j + c then p.2.2.2 (p.2.1 - 1 - j) else p.2.2.2 j)) → wl_X3_turnAbout_9 P K (m + 1) (nI c) (nI (p.2.1 - 1 - c)) (sP S P i a) := by
    intro m c a hc hc2 ha
    rw [wl_X3_turnAbout_9]
    refine d_leT (p.2.1 - 1 - c) c (by omega) (q _ _ _ fun j hj => ?_)
    rw [ha j hj]
    by_cases h : j < c ∨ p.2.1 - 1 < j + c
    · rw [if_pos h]
    · rw [if_neg h]
      have e : p.2.1 - 1 - j = j := by omega
      rw [e]
  intro m
  induction m with
  | zero => exact fun c a hm hc ha => out 0 c a (by omega) hc ha
  | succ m ih =>
    intro c a hm hc ha
    by_cases he : p.2.1 - 1 ≤ 2 * c
    · exact out _ c a he hc ha
    · have hr : RC (gI (sP S P i a) P) (gA (sP S P i a) (P + 1)) (p.1, p.2.1, p.2.2.1, fun j => if j < c ∨ p.2.1 - 1 < j + c then p.2.2.2 (p.2.1 - 1 - j) else p.2.2.2 j) := by
        rw [gI_sP, gA_sP]
        exact ⟨h2, h3, h4, fc, hf, h1, ha⟩
      rw [wl_X3_turnAbout_9]
      refine d_leF (p.2.1 - 1 - c) c (by omega) ?_
      refine c_glimpseAt (j := c) hP hr rfl (by show c < p.2.1; omega) hn ?_
      refine c_glimpseAt (j := p.2.1 - 1 - c) hP hr rfl (by show p.2.1 - 1 - c < p.2.1; omega) hn ?_
      refine c_put (j := c) hP hf (by rw [gI_sP]; exact h1) rfl (by omega) ?_
      rw [sA_sP]
      refine c_put (j := p.2.1 - 1 - c) hP hf (by rw [gI_sP]; exact h1) rfl (by omega) ?_
      rw [sA_sP]
      refine nm_r (nI_1 c) (nm_r (e' := nI (p.2.1 - 1 - (c + 1))) ?_ ?_)
      · have e : p.2.1 - 1 - c = (p.2.1 - 1 - (c + 1)) + 1 := by omega
        rw [e]
        exact pk_m1 _
      · refine ih (c + 1) _ (by omega) (by omega) fun j hj => ?_
        show up1 (up1 a ((fc + c) % 16) (eI (if p.2.1 - 1 - c < c ∨ p.2.1 - 1 < p.2.1 - 1 - c + c then _ else p.2.2.2 (p.2.1 - 1 - c)))) ((fc + (p.2.1 - 1 - c)) % 16) (eI (if c < c ∨ p.2.1 - 1 < c + c then _ else p.2.2.2 c)) ((fc + j) % 16) = _
        rw [if_neg (by omega : ¬ (p.2.1 - 1 - c < c ∨ p.2.1 - 1 < p.2.1 - 1 - c + c)), if_neg (by omega : ¬ (c < c ∨ p.2.1 - 1 < c + c))]
        by_cases hj1 : j = p.2.1 - 1 - c
        · subst hj1
          rw [u1_s, if_pos (by omega)]
          have e : p.2.1 - 1 - (p.2.1 - 1 - c) = c := by omega
          rw [e]
        · rw [u1_n (by omega)]
          by_cases hj2 : j = c
          · subst hj2
            rw [u1_s, if_pos (by omega)]
          · rw [u1_n (by omega), ha j hj]
            by_cases h : j < c ∨ p.2.1 - 1 < j + c
            · rw [if_pos h, if_pos (by omega)]
            · rw [if_neg h, if_neg (by omega)]
theorem c_turn {P : Nat} {p : AP} {S : St} {Q : St → Prop} (hP : isPn P) (h : RC (gI S P) (gA S (P + 1)) p) (hp : VPa p) (q : ∀ i a, RC i a (aTurn p) → Q (sP S P i a)) : wp_X3_turnAbout P S Q := by
  obtain ⟨h2, h3, h4, fc, hf, h1, ha⟩ := h
  have hn1 := hp.2.1
  unfold wp_X3_turnAbout
  refine ⟨hP, nm_r (e' := nI (p.2.1 - 1)) (by rw [h3]; exact pk_sub (b := 1) hn1) ⟨p.2.1 - 1 + 1, ?_⟩⟩
  have e : S = sP S P (gI S P) (gA S (P + 1)) := sP_self.symm
  rw [e]
  exact c_turn_l (S := S) hP hp hf h2 h3 h4 h1 (fun y z a' ha' => q _ _ ⟨h2, h3, h4, fc, hf, h1, ha'⟩) (p.2.1 - 1) 0 _ (by omega) (by omega) fun j hj => by
    rw [if_neg (by omega)]
    exact ha j hj
/-! what is shown, what it is worth -/
def aView (V : Nat → Nat) (e : Nat) : Nat := if e = 500 then 0 else V (50 * (e % 10) + e / 10)
def aLove (L : Nat → Nat) (l e : Nat) : Nat := if e = 500 then 0 else L (4 * l + e % 10)
def aLast (p : AP) : Nat := p.2.2.2 (p.2.1 - 1)
def aShown (V : Nat → Nat) (p : AP) : Nat := if p.1 = 3 then aView V (aLast p) / 2 else if p.1 = 4 then aView V (aLast p) / 2 + aView V (aAhead p) / 2 else if p.1 = 5 then (if aLast p = 500 then 0 else 99 - aView V (aLast p)) else aView V (aLast p)
def aW (V L : Nat → Nat) (l : Nat) : Nat → Nat → AP → Nat
  | 0, _, _ => 0
  | m + 1, d, p => aShown V p * aLove L l (aLast p) + aW V L l m (d + 1) (aPass d p)
/-- a row of small numbers -/
def NR (f : Nat → Int32) (V : Nat → Nat) (N b : Nat) : Prop := ∀ j, j < N → f j = nI (V j) ∧ V j ≤ b
theorem aView_le {f : Nat → Int32} {V : Nat → Nat} (h : NR f V 200 99) {e : Nat} (he : VE e) : aView V e ≤ 99 := by
  unfold aView
  by_cases h5 : e = 500
  · rw [if_pos h5]
    exact Nat.zero_le _
  · rw [if_neg h5]
    rcases he with he | ⟨h1, h2⟩
    · exact absurd he h5
    · exact (h _ (by omega)).2
theorem VPa.lastE {p : AP} (h : VPa p) : VE (aLast p) := h.last
theorem c_viewIn {w e : Nat} {S : St} {V : Nat → Nat} {Q : Int32 → St → Prop} (hw : isW w) (hV : NR (gA S (w + 1)) V 200 99) (he : VE e) (q : Q (nI (aView V e)) S) : wp_X10_viewIn w (eI e) S Q := by
  unfold wp_X10_viewIn wp_X11_viewSlot
  unfold aView at q
  refine ⟨hw, d_dk he (fun h => ?_) (fun h1 h2 => ?_)⟩
  · rw [if_pos h] at q
    exact q
  · rw [if_neg (by omega)] at q
    have e1 : eI e - eI e / (10 : Int32) * (10 : Int32) = nI (e % 10) := by
      rw [eI_n h1]
      exact pk_rem (d := 10) (by omega) (by omega) (by omega)
    have e2 : eI e / (10 : Int32) = nI (e / 10) := by
      rw [eI_n h1]
      exact pk_div (d := 10) (by omega) (by omega) (by omega)
    have e3 : nI (e % 10) * (50 : Int32) + nI (e / 10) = nI (50 * (e % 10) + e / 10) := by
      show nI (e % 10) * nI 50 + _ = _
      rw [pk_mul, nI_add, Nat.mul_comm]
    rw [e1, e2, e3, nI_clamp (by omega), (hV _ (by omega)).1]
    exact ⟨vp_in_nI (by omega) (by decide), q⟩
theorem c_shown {w P : Nat} {S : St} {V : Nat → Nat} {p : AP} {Q : Int32 → St → Prop} (hw : isW w) (hP : isPn P) (hV : NR (gA S (w + 1)) V 200 99) (h : RC (gI S P) (gA S (P + 1)) p) (hp : VPa p) (q : Q (nI (aShown V p)) S) : wp_X10_shownBy w P S Q := by
  have hk := hp.1
  have b1 := aView_le hV hp.lastE
  have b2 := aView_le hV hp.ahead
  unfold wp_X10_shownBy
  unfold aShown at q
  refine ⟨hw, hP, c_last hP h hp (c_viewIn hw hV hp.lastE ?_)⟩
  rw [h.1]
  refine pk_eq p.1 3 (fun e => ?_) (fun e => pk_eq p.1 4 (fun e' => ?_) (fun e' => pk_eq p.1 5 (fun e'' => ?_) (fun e'' => ?_)))
  · rw [if_pos e] at q
    have e1 : nI (aView V (aLast p)) / (2 : Int32) = nI (aView V (aLast p) / 2) := pk_div (d := 2) (by omega) (by omega) (by omega)
    rw [← e1] at q
    exact q
  · rw [if_neg e, if_pos e'] at q
    refine c_ahead hP h hp (c_viewIn hw hV hp.ahead ?_)
    have e1 : nI (aView V (aLast p)) / (2 : Int32) = nI (aView V (aLast p) / 2) := pk_div (d := 2) (by omega) (by omega) (by omega)
    have e2 : nI (aView V (aAhead p)) / (2 : Int32) = nI (aView V (aAhead p) / 2) := pk_div (d := 2) (by omega) (by omega) (by omega)
    rw [← nI_add, ← e1, ← e2] at q
    exact q
  · rw [if_neg e, if_neg e', if_pos e''] at q
    refine c_last hP h hp (d_dk hp.lastE (fun z => ?_) (fun z _ => ?_))
    · rw [if_pos z] at q
      exact q
    · rw [if_neg (by show ¬ aLast p = 500; exact Nat.ne_of_lt z)] at q
      have e1 : (99 : Int32) - nI (aView V (aLast p)) = nI (99 - aView V (aLast p)) := pk_sub (a := 99) b1
      rw [← e1] at q
      exact q
  · rw [if_neg e, if_neg e', if_neg e''] at q
    exact q
theorem c_loveFor {w l e : Nat} {x : Int32} {S : St} {L : Nat → Nat} {Q : Int32 → St → Prop} (hw : isW w) (hL : NR (gA S (w + 2)) L 12 9) (hx : x = nI l) (hl : l < 3) (he : VE e) (q : Q (nI (aLove L l e)) S) : wp_X10_loveFor w x (eI e) S Q := by
  unfold wp_X10_loveFor wp_X11_loveSlot
  unfold aLove at q
  refine ⟨hw, d_dk he (fun h => ?_) (fun h1 h2 => ?_)⟩
  · rw [if_pos h] at q
    exact q
  · rw [if_neg (by omega)] at q
    have e1 : eI e - eI e / (10 : Int32) * (10 : Int32) = nI (e % 10) := by
      rw [eI_n h1]
      exact pk_rem (d := 10) (by omega) (by omega) (by omega)
    have e3 : x * (4 : Int32) + nI (e % 10) = nI (4 * l + e % 10) := by
      rw [hx]
      show nI l * nI 4 + _ = _
      rw [pk_mul, nI_add, Nat.mul_comm]
    rw [e1, e3, nI_clamp (by omega), (hL _ (by omega)).1]
    exact ⟨vp_in_nI (by omega) (by decide), q⟩
theorem c_worth_l {w P l e : Nat} {x t : Int32} {S : St} {V L : Nat → Nat} {K : Int32 → Int32 → St → Prop} (hw : isW w) (hP : isPn P) (hV : NR (gA S (w + 1)) V 200 99) (hL : NR (gA S (w + 2)) L 12 9) (hx : x = nI l) (hl : l < 3) (ht : t = nI e) (he : e ≤ 50) : ∀ (m d acc : Nat) (p : AP) (i a : Nat → Int32), d + m = e → RC i a p → VPa p → (∀ y i' a' p', RC i' a' p' → K (nI (acc + aW V L l m d p)) y (sP S P i' a')) → wl_X10_worthOf_22 w P x t K (m + 1) (nI acc) (nI d) (sP S P i a)
  | 0, d, acc, p, i, a, hd, hr, hp, q => by
    rw [wl_X10_worthOf_22]
    exact d_leT e d (by omega) (q _ _ _ p hr) ht
  | m + 1, d, acc, p, i, a, hd, hr, hp, q => by
    have hwP : w + 1 ≠ P + 1 ∧ w + 2 ≠ P + 1 := by
      have h1 := hP.1
      have h2 := hP.2.2
      rcases hw with rfl | rfl | rfl <;> omega
    have hr' : RC (gI (sP S P i a) P) (gA (sP S P i a) (P + 1)) p := by
      rw [gI_sP, gA_sP]
      exact hr
    rw [wl_X10_worthOf_22]
    refine d_leF e d (by omega) ?_ ht
    refine c_shown hw hP (by rw [gA_sPn hwP.1]; exact hV) hr' hp (c_last hP hr' hp (c_loveFor hw (by rw [gA_sPn hwP.2]; exact hL) hx hl hp.lastE ?_))
    refine nm_r (e' := nI (acc + aShown V p * aLove L l (aLast p))) (by rw [← nI_add, ← pk_mul]; rfl) ?_
    refine c_passDay hP hr' hp rfl (by omega) fun i' a' hr'' => nm_r (nI_1 d) ?_
    rw [sP_sP]
    refine c_worth_l hw hP hV hL hx hl ht he m (d + 1) _ (aPass d p) i' a' (by omega) hr'' (hp.pass (by omega)) ?_
    intro y i2 a2 p2 h2
    have := q y i2 a2 p2 h2
    rw [aW] at this
    rw [Nat.add_assoc]
    exact this
theorem c_worthOf {w P l n t c : Nat} {x y : Int32} {S : St} {V L : Nat → Nat} {p : AP} {Q : Int32 → St → Prop} (hw : isW w) (hP : isPn P) (hV : NR (gA S (w + 1)) V 200 99) (hL : NR (gA S (w + 2)) L 12 9) (ht : gI S w 4 = nI t) (ht5 : t ≤ 50) (hx : x = nI l) (hl : l < 3) (hy : y = nI n) (hn : n ≤ 20) (hc : c = min n (50 - t)) (h : RC (gI S P) (gA S (P + 1)) p) (hp : VPa p) (q : ∀ i' a' p', RC i' a' p' → Q (nI (aW V L l c t p)) (sP S P i' a')) : wp_X10_worthOf w P x y S Q := by
  unfold wp_X10_worthOf
  rw [ht, hy, nI_add]
  refine ⟨hw, hP, nm_r (e' := nI (t + c)) ?_ (nm_e ⟨c + 1, ?_⟩)⟩
  · by_cases h : t + n < 50
    · rw [if_pos (show nI (t + n) < (50 : Int32) from nI_lt (b := 50) h (by omega))]
      have : t + n = t + c := by omega
      rw [this]
    · rw [if_neg (show ¬ nI (t + n) < (50 : Int32) from nI_nlt (a := t + n) (b := 50) (by omega) (by omega))]
      have : t + c = 50 := by omega
      rw [this]
      rfl
  · have e : S = sP S P (gI S P) (gA S (P + 1)) := sP_self.symm
    rw [e]
    refine c_worth_l (S := S) hw hP hV hL hx hl rfl (by omega) c t 0 p _ _ rfl h hp ?_
    intro y' i' a' p' hr
    have := q i' a' p' hr
    rw [Nat.zero_add]
    exact this
