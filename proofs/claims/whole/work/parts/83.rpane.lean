/-! THE REFERENCE'S PANES: slices of its row. -/
theorem sA_R {T : St} {c k : Nat} {v : Int32} : sA T c k v = sR T c (up1 (gA T c) k v) := rfl
theorem gA_sRn {T : St} {c c' : Nat} {g : Nat → Int32} (h : c' ≠ c) : gA (sR T c g) c' = gA T c' := if_neg h
theorem sR_sR {T : St} {c : Nat} {g g' : Nat → Int32} : sR (sR T c g) c g' = sR T c g' := by
  refine Prod.ext rfl (Prod.ext (funext fun d => ?_) rfl)
  show (if d = c then g' else if d = c then g else T.2.1 d) = if d = c then g' else T.2.1 d
  by_cases h : d = c
  · rw [if_pos h, if_pos h]
  · rw [if_neg h, if_neg h, if_neg h]
theorem sR_self {T : St} {c : Nat} : sR T c (gA T c) = T := by
  refine Prod.ext rfl (Prod.ext (funext fun d => ?_) rfl)
  show (if d = c then gA T c else T.2.1 d) = T.2.1 d
  by_cases h : d = c
  · subst h
    exact if_pos rfl
  · exact if_neg h
def RS (r : Nat → Int32) (b : Nat) (p : AP) : Prop := r b = nI p.1 ∧ r (b + 1) = nI p.2.1 ∧ r (b + 2) = nI p.2.2.1 ∧ ∀ j, j < p.2.1 → r (b + (3 + j)) = eI (p.2.2.2 j)
/-- pane p of the row that is worked on (at u) stands at b -/
def At (T : St) (u p b : Nat) : Prop := gI T 0 3 = nI u ∧ b = u + 2 + 19 * p ∧ b + 19 ≤ 232
/-- nothing changed but at b .. b + 18 -/
def Out (r r' : Nat → Int32) (b : Nat) : Prop := ∀ j, j < b ∨ b + 19 ≤ j → r' j = r j
theorem RS.out {r r' : Nat → Int32} {b b' : Nat} {p : AP} (h : RS r b p) (hn : p.2.1 ≤ 16) (ho : Out r r' b') (hb : b + 19 ≤ b' ∨ b' + 19 ≤ b) : RS r' b p := by
  obtain ⟨h1, h2, h3, h4⟩ := h
  refine ⟨?_, ?_, ?_, fun j hj => ?_⟩
  · rw [ho _ (by omega)]
    exact h1
  · rw [ho _ (by omega)]
    exact h2
  · rw [ho _ (by omega)]
    exact h3
  · rw [ho _ (by omega)]
    exact h4 j hj
theorem Out.trans {r r' r'' : Nat → Int32} {b : Nat} (h : Out r r' b) (h' : Out r' r'' b) : Out r r'' b := fun j hj => (h' j hj).trans (h j hj)
theorem r_ix {T : St} {u p k b : Nat} {x y : Int32} (h : At T u p b) (hx : x = nI p) (hy : y = nI k) : ((gI T 0 3 + (2 : Int32)) + ((19 : Int32) * x)) + y = nI (b + k) := by
  obtain ⟨h1, h2, -⟩ := h
  rw [h1, hx, hy, h2]
  show (nI u + nI 2) + nI 19 * nI p + nI k = _
  rw [nI_add, pk_mul, nI_add, nI_add]
theorem r_its {T : St} {u p k b : Nat} {x y : Int32} {Q : Int32 → St → Prop} (h : At T u p b) (hx : x = nI p) (hy : y = nI k) (hk : k < 19) (q : Q (gA T 3 (b + k)) T) : wp_X12_its x y T Q := by
  have h3 := h.2.2
  unfold wp_X12_its
  rw [r_ix h hx hy, nI_clamp (by omega)]
  exact ⟨vp_in_nI (by omega) (by decide), q⟩
theorem r_bec {T : St} {u p k b : Nat} {x y v : Int32} {Q : St → Prop} (h : At T u p b) (hx : x = nI p) (hy : y = nI k) (hk : k < 19) (q : Q (sR T 3 (up1 (gA T 3) (b + k) v))) : wp_X12_becomes x y v T Q := by
  have h3 := h.2.2
  unfold wp_X12_becomes
  rw [r_ix h hx hy, nI_clamp (by omega)]
  exact ⟨vp_in_nI (by omega) (by decide), nm_e q⟩
theorem r_last {T : St} {u p b : Nat} {x : Int32} {q : AP} {Q : Int32 → St → Prop} (h : At T u p b) (hx : x = nI p) (hr : RS (gA T 3) b q) (hq : VPa q) (k : Q (eI (aLast q)) T) : wp_X12_lastOf x T Q := by
  have h1 := hq.2.1
  have h2 := hq.2.2.1
  unfold wp_X12_lastOf
  refine r_its h hx (k := 1) rfl (by decide) ?_
  rw [hr.2.1]
  refine r_its h hx (k := 3 + (q.2.1 - 1)) ?_ (by omega) ?_
  · have e : 3 + (q.2.1 - 1) = 3 + q.2.1 - 1 := by omega
    rw [e]
    show nI 3 + nI q.2.1 - nI 1 = _
    rw [nI_add]
    exact pk_sub (by omega)
  · rw [hr.2.2.2 _ (by omega)]
    exact k
theorem r_viewBy {T : St} {V : Nat → Nat} {e : Nat} {Q : Int32 → St → Prop} (hV : NR (gA T 1) V 200 99) (he : VE e) (q : Q (nI (aView V e)) T) : wp_X12_viewBy (eI e) T Q := by
  unfold wp_X12_viewBy
  unfold aView at q
  refine d_nn he (fun h1 h2 => ?_) (fun h => ?_)
  · rw [if_neg (by omega)] at q
    have e1 : eI e - eI e / (10 : Int32) * (10 : Int32) = nI (e % 10) := by
      rw [eI_n h1]
      exact pk_rem (d := 10) (by omega) (by omega) (by omega)
    have e2 : eI e / (10 : Int32) = nI (e / 10) := by
      rw [eI_n h1]
      exact pk_div (d := 10) (by omega) (by omega) (by omega)
    have e3 : (50 : Int32) * nI (e % 10) + nI (e / 10) = nI (50 * (e % 10) + e / 10) := by
      show nI 50 * nI (e % 10) + _ = _
      rw [pk_mul, nI_add]
    rw [e1, e2, e3, nI_clamp (by omega), (hV _ (by omega)).1]
    exact ⟨vp_in_nI (by omega) (by decide), q⟩
  · rw [if_pos h] at q
    exact q
theorem r_shown {T : St} {u p b : Nat} {x : Int32} {q : AP} {V : Nat → Nat} {Q : Int32 → St → Prop} (h : At T u p b) (hx : x = nI p) (hr : RS (gA T 3) b q) (hq : VPa q) (hV : NR (gA T 1) V 200 99) (k : Q (nI (aShown V q)) T) : wp_X12_shown x T Q := by
  have hk := hq.1
  have hn1 := hq.2.1
  have hn := hq.2.2.1
  have b1 := aView_le hV hq.lastE
  have b2 := aView_le hV hq.ahead
  unfold wp_X12_shown
  unfold aShown at k
  refine r_its h hx (k := 1) rfl (by decide) (r_last h hx hr hq (r_viewBy hV hq.lastE (r_its h hx (k := 0) rfl (by decide) ?_)))
  rw [hr.2.1, show gA T 3 (b + 0) = nI q.1 from hr.1]
  have e1 : nI (aView V (aLast q)) / (2 : Int32) = nI (aView V (aLast q) / 2) := pk_div (d := 2) (by omega) (by omega) (by omega)
  refine pk_eq q.1 3 (fun e => ?_) (fun e => pk_eq q.1 4 (fun e' => pk_le q.2.1 1 (fun g => ?_) (fun g => ?_)) (fun e' => pk_eq q.1 5 (fun e'' => ?_) (fun e'' => ?_)))
  · rw [if_pos e, ← e1] at k
    exact k
  · rw [if_neg e, if_pos e', ← nI_add, ← e1] at k
    have e2 : aView V (aAhead q) / 2 = 0 := by
      unfold aAhead
      rw [if_neg (by omega)]
      unfold aView
      rw [if_pos rfl]
    rw [e2] at k
    exact k
  · rw [if_neg e, if_pos e', ← nI_add, ← e1] at k
    refine d_leF q.2.1 1 g (r_its h hx (k := 3 + (q.2.1 - 2)) ?_ (by omega) ?_)
    · show nI 3 + (nI q.2.1 - nI 2) = _
      rw [pk_sub (by omega), nI_add]
    · have e3 : q.2.2.2 (q.2.1 - 2) = aAhead q := by
        unfold aAhead
        rw [if_pos (by omega)]
      rw [hr.2.2.2 _ (by omega), e3]
      refine r_viewBy hV hq.ahead ?_
      have e2 : nI (aView V (aAhead q)) / (2 : Int32) = nI (aView V (aAhead q) / 2) := pk_div (d := 2) (by omega) (by omega) (by omega)
      rw [← e2] at k
      exact k
  · rw [if_neg e, if_neg e', if_pos e''] at k
    refine r_last h hx hr hq (d_nn hq.lastE (fun z _ => ?_) (fun z => ?_))
    · rw [if_neg (by show ¬ aLast q = 500; exact Nat.ne_of_lt z)] at k
      have e1 : (99 : Int32) - nI (aView V (aLast q)) = nI (99 - aView V (aLast q)) := pk_sub (a := 99) b1
      rw [← e1] at k
      exact k
    · rw [if_pos z] at k
      exact k
  · rw [if_neg e, if_neg e', if_neg e''] at k
    exact k
theorem r_hung {T : St} {pl : Nat} {Q : Int32 → St → Prop} (h : pl ≤ 4) (q : Q (if pl = 4 then (-9 : Int32) else nI pl) T) : wp_X12_hung (nI pl) T Q := by
  unfold wp_X12_hung
  refine pk_eq pl 4 (fun e => ?_) (fun e => ?_)
  · rw [if_pos e] at q
    exact q
  · rw [if_neg e] at q
    exact q
theorem r_movesBy {T : St} {k d : Nat} {Q : Int32 → St → Prop} (hk : k < 6) (hd : d < 1000) (q1 : aMv k d → Q 1 T) (q0 : ¬ aMv k d → Q 0 T) : wp_X12_movesBy (nI k) (nI d) T Q := by
  unfold wp_X12_movesBy
  have e2 : nI d - nI d / (2 : Int32) * (2 : Int32) = nI (d % 2) := pk_rem (d := 2) (by omega) (by omega) (by omega)
  have e4 : nI d - nI d / (4 : Int32) * (4 : Int32) = nI (d % 4) := pk_rem (d := 4) (by omega) (by omega) (by omega)
  rw [e2, e4]
  exact pk_eq k 1 (fun a => pk_eq (d % 2) 0 (fun b => q1 ⟨fun _ => b, fun z => by omega⟩) (fun b => q0 fun z => b (z.1 a))) (fun a => pk_eq k 2 (fun b => pk_eq (d % 4) 0 (fun e => q1 ⟨fun z => absurd z a, fun _ => e⟩) (fun e => q0 fun z => e (z.2 b))) (fun b => q1 ⟨fun z => absurd z a, fun z => absurd z b⟩))
theorem r_moves_l {T : St} {u p b : Nat} {x : Int32} {K : Int32 → St → Prop} (h : At T u p b) (hx : x = nI p) : ∀ (m : Nat) (r : Nat → Int32), m < 16 → (∀ y r', (∀ j, r' j = if b + 3 < j ∧ j ≤ b + 3 + m then r (j - 1) else r j) → K y (sR T 3 r')) → wl_X12_moves_23 x K (m + 1) (nI m) (sR T 3 r)
  | 0, r, hm, q => by
    rw [wl_X12_moves_23]
    exact d_leT 0 0 (by omega) (q _ _ fun j => (if_neg (by omega)).symm)
  | m + 1, r, hm, q => by
    rw [wl_X12_moves_23]
    refine d_leF (m + 1) 0 (by omega) (r_its (k := 3 + m) h hx ?_ (by omega) (r_bec (k := 3 + (m + 1)) h hx ?_ (by omega) (nm_r (pk_m1 m) ?_)))
    · show nI 3 + nI (m + 1) - nI 1 = _
      rw [nI_add]
      exact pk_sub (by omega)
    · exact nI_add 3 (m + 1)
    · rw [sR_sR, gA_sR]
      refine r_moves_l h hx m _ (by omega) fun y r' hr => q y r' fun j => ?_
      rw [hr j]
      by_cases h1 : b + 3 < j ∧ j ≤ b + 3 + m
      · rw [if_pos h1, if_pos (by omega), u1_n (by omega)]
      · rw [if_neg h1]
        by_cases h2 : j = b + (3 + (m + 1))
        · subst h2
          rw [u1_s, if_pos (by omega)]
          rfl
        · rw [u1_n h2, if_neg (by omega)]
theorem r_moves {T : St} {u p b d : Nat} {x y : Int32} {q : AP} {Q : St → Prop} (h : At T u p b) (hx : x = nI p) (hr : RS (gA T 3) b q) (hq : VPa q) (hy : y = nI d) (hd : d < 50) (k : ∀ r', RS r' b (aPass d q) → Out (gA T 3) r' b → Q (sR T 3 r')) : wp_X12_moves x y T Q := by
  have hk := hq.1
  have hn1 := hq.2.1
  have hn := hq.2.2.1
  have hpl := hq.2.2.2.1
  subst hy
  unfold wp_X12_moves
  refine r_its h hx (k := 0) rfl (by decide) ?_
  rw [show gA T 3 (b + 0) = nI q.1 from hr.1]
  refine r_movesBy hk (by omega) (fun hm => d_1 (r_its h hx (k := 1) rfl (by decide) ?_)) (fun hm => d_0 ?_)
  · rw [hr.2.1]
    refine nm_r (e' := nI (q.2.1 - 1)) (pk_sub (b := 1) hn1) ⟨q.2.1 - 1 + 1, ?_⟩
    have e : T = sR T 3 (gA T 3) := sR_self.symm
    rw [e]
    refine r_moves_l h hx (q.2.1 - 1) _ (by omega) fun z r' hr' => ?_
    have key : ∀ v, v = eI (aNew q.2.2.1 d) → Q (sR (sR T 3 r') 3 (up1 (gA (sR T 3 r') 3) (b + 3) v)) := by
      intro v hv
      rw [sR_sR, gA_sR]
      refine k _ ?_ fun j hj => ?_
      · unfold aPass
        rw [if_pos hm]
        refine ⟨?_, ?_, ?_, fun j hj => ?_⟩
        · rw [u1_n (by omega), hr' b, if_neg (by omega)]
          exact hr.1
        · rw [u1_n (by omega), hr' (b + 1), if_neg (by omega)]
          exact hr.2.1
        · rw [u1_n (by omega), hr' (b + 2), if_neg (by omega)]
          exact hr.2.2.1
        · have hj' : j < q.2.1 := hj
          show up1 r' (b + 3) v (b + (3 + j)) = eI (if j = 0 then aNew q.2.2.1 d else q.2.2.2 (j - 1))
          by_cases hj0 : j = 0
          · subst hj0
            rw [if_pos rfl]
            exact (u1_s (f := r')).trans hv
          · rw [if_neg hj0, u1_n (by omega), hr', if_pos (by omega)]
            have e : b + (3 + j) - 1 = b + (3 + (j - 1)) := by omega
            rw [e]
            exact hr.2.2.2 _ (by omega)
      · rw [u1_n (by omega), hr' j, if_neg (by omega)]
    refine r_its (T := sR T 3 r') (k := 2) h hx rfl (by decide) ?_
    have e2 : gA (sR T 3 r') 3 (b + 2) = nI q.2.2.1 := by
      rw [gA_sR, hr' (b + 2), if_neg (by omega)]
      exact hr.2.2.1
    rw [e2]
    refine pk_eq q.2.2.1 4 (fun e => ?_) (fun e => ?_)
    · exact r_bec (T := sR T 3 r') (k := 3) h hx rfl (by decide) (key _ (by unfold aNew; rw [if_pos e]; exact eI_d.symm))
    · refine r_bec (T := sR T 3 r') (k := 3) h hx rfl (by decide) (key _ ?_)
      unfold aNew
      rw [if_neg e, eI_n (by omega)]
      show nI 10 * nI d + nI q.2.2.1 = _
      rw [pk_mul, nI_add]
  · have := k (gA T 3) (by unfold aPass; rw [if_neg hm]; exact hr) (fun _ _ => rfl)
    rw [sR_self] at this
    exact this
theorem r_makes_l {T : St} {u p b : Nat} {x : Int32} {K : Int32 → St → Prop} (h : At T u p b) (hx : x = nI p) : ∀ (m c : Nat) (r : Nat → Int32), c + m = 16 → (∀ y r', (∀ j, r' j = if b + 3 + c ≤ j ∧ j < b + 19 then mI 9 else r j) → K y (sR T 3 r')) → wl_X12_makes_25 x K (m + 1) (nI c) (sR T 3 r)
  | 0, c, r, hc, q => by
    rw [wl_X12_makes_25]
    exact d_leT 16 c (by omega) (q _ _ fun j => (if_neg (by omega)).symm)
  | m + 1, c, r, hc, q => by
    rw [wl_X12_makes_25]
    refine d_leF 16 c (by omega) (r_bec (k := 3 + c) h hx (nI_add 3 c) (by omega) (nm_r (nI_1 c) ?_))
    rw [sR_sR, gA_sR]
    refine r_makes_l h hx m (c + 1) _ (by omega) fun y r' hr => q y r' fun j => ?_
    rw [hr j]
    by_cases h1 : b + 3 + (c + 1) ≤ j ∧ j < b + 19
    · rw [if_pos h1, if_pos (by omega)]
    · rw [if_neg h1]
      by_cases h2 : j = b + (3 + c)
      · subst h2
        rw [u1_s, if_pos (by omega)]
        rfl
      · rw [u1_n h2, if_neg (by omega)]
theorem r_makes {T : St} {u p b k n pl : Nat} {x y z v : Int32} {Q : St → Prop} (h : At T u p b) (hx : x = nI p) (hy : y = nI k) (hz : z = nI n) (hv : v = nI pl) (hn : n ≤ 16) (q : ∀ r', RS r' b (k, n, pl, fun _ => 500) → Out (gA T 3) r' b → Q (sR T 3 r')) : wp_X12_makes x y z v T Q := by
  unfold wp_X12_makes
  refine r_bec h hx (k := 0) rfl (by decide) (r_bec h hx (k := 1) rfl (by decide) (r_bec h hx (k := 2) rfl (by decide) ⟨16 + 1, ?_⟩))
  rw [sR_sR, sR_sR, gA_sR, gA_sR]
  refine r_makes_l h hx 16 0 _ (by decide) fun w r' hr => q r' ⟨?_, ?_, ?_, fun j hj => ?_⟩ fun j hj => ?_
  · rw [hr, if_neg (by omega), u1_n (by omega), u1_n (by omega)]
    exact (u1_s (f := gA T 3) (k := b)).trans hy
  · rw [hr, if_neg (by omega), u1_n (by omega), u1_s]
    exact hz
  · rw [hr, if_neg (by omega), u1_s]
    exact hv
  · have hj' : j < n := hj
    rw [hr, if_pos (by omega)]
    exact eI_d.symm
  · rw [hr, if_neg (by omega), u1_n (by omega), u1_n (by omega), u1_n (by omega)]
