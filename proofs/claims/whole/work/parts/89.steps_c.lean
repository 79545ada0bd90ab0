/-! STEPS: the best of several -/
def aBest (W : Nat → Int32) : Nat → Nat → Int32 → Int32 → Int32
  | 0, _, b, _ => b
  | k + 1, i, b, m => if W i ≤ m then aBest W k (i + 1) b m else aBest W k (i + 1) (nI i) (W i)
theorem aBest_t {W : Nat → Int32} {k i : Nat} {b m : Int32} (h : W i ≤ m) : aBest W (k + 1) i b m = aBest W k (i + 1) b m := by
  rw [aBest, if_pos h]
theorem aBest_f {W : Nat → Int32} {k i : Nat} {b m : Int32} (h : ¬ W i ≤ m) : aBest W (k + 1) i b m = aBest W k (i + 1) (nI i) (W i) := by
  rw [aBest, if_neg h]
def aHang (q : AP) (pl : Nat) : AP := (q.1, q.2.1, pl, q.2.2.2)
def aBuyW (V L : Nat → Nat) (l m t : Nat) (p : Nat → AP) (i : Nat) : Int32 := nI (aW V L l m t (p i))
def aLetW (V L : Nat → Nat) (l m t : Nat) (q : AP) (i : Nat) : Int32 := nI (aW V L l m t (aHang q i))
section BEST
variable {n : List Nat} {S S0 T : St} {V L : Nat → Nat} {t c l j N : Nat} {p : Nat → AP} {x y z : Int32}
theorem c_buy_l {K : Int32 → Int32 → Int32 → St → Prop} (hx : x = nI l) (hl : l < 3) (hy : y = nI N) (hN : N ≤ 20) : ∀ (m i : Nat) (b mo : Int32) (S : St), i + m = c → TI n S0 T V L t c p S → (∀ u v S', TI n S0 T V L t c p S' → K (aBest (aBuyW V L l (min N (50 - t)) t p) m i b mo) u v S') → wl_X11_buy_25 x y K (m + 1) b mo (nI i) S
  | 0, i, b, mo, S, hi, h, k => by
    rw [wl_X11_buy_25]
    refine nm_e ⟨h.w, ?_⟩
    have := h.td.2.2
    rw [h.c3]
    exact d_leT c i (by omega) (k _ _ _ h)
  | m + 1, i, b, mo, S, hi, h, k => by
    rw [wl_X11_buy_25]
    refine nm_e ⟨h.w, ?_⟩
    have := h.td.2.2
    rw [h.c3]
    refine d_leF c i (by omega) (c_worthAsIs h (j := i) (by omega) rfl hx hl hy hN fun S' hS' => ?_)
    by_cases hle : aBuyW V L l (min N (50 - t)) t p i ≤ mo
    · refine br_t hle (nm_r (nI_1 i) (c_buy_l hx hl hy hN m (i + 1) b mo S' (by omega) hS' fun u v S2 h2 => ?_))
      have := k u v S2 h2
      rw [aBest_t hle] at this
      exact this
    · refine br_f hle (nm_r (nI_1 i) (c_buy_l hx hl hy hN m (i + 1) _ _ S' (by omega) hS' fun u v S2 h2 => ?_))
      have := k u v S2 h2
      rw [aBest_f hle] at this
      exact this
theorem r_buy_l {K : Int32 → Int32 → Int32 → St → Prop} (hV : NR (gA T 1) V 200 99) (hL : NR (gA T 2) L 12 9) (ht : t ≤ 50) (hc : c ≤ 6) (h1 : gA T 3 1 = nI c) (hp : ∀ j, j < c → VPa (p j)) (hx : x = nI l) (hl : l < 3) (hy : y = nI N) (hN : N ≤ 20) : ∀ (m i : Nat) (b mo : Int32) (r : Nat → Int32), i + m = c → (∀ j, j < 116 → r j = gA T 3 j) → r 116 = nI t → (∀ j, i ≤ j → j < c → RS r (116 + 2 + 19 * j) (p j)) → (∀ u v r', (∀ j, j < 116 → r' j = gA T 3 j) → K (aBest (aBuyW V L l (min N (50 - t)) t p) m i b mo) u v (sU T 116 r')) → wl_X12_buy_29 x y K (m + 1) b mo (nI i) (sU T 116 r)
  | 0, i, b, mo, r, hi, h2, h3, h4, k => by
    rw [wl_X12_buy_29, e_1, gA_sU, h2 1 (by decide), h1]
    exact ⟨i_1 (by decide) (by decide), d_leT c i (by omega) (k _ _ _ h2)⟩
  | m + 1, i, b, mo, r, hi, h2, h3, h4, k => by
    rw [wl_X12_buy_29, e_1, gA_sU, h2 1 (by decide), h1]
    refine ⟨i_1 (by decide) (by decide), d_leF c i (by omega) (ru_worth (b := 116 + 2 + 19 * i) rfl (by omega) rfl hV hL h3 ht hx hl hy hN (h4 i (Nat.le_refl _) (by omega)) (hp i (by omega)) fun r' ho => ?_)⟩
    have q2 : ∀ j, j < 116 → r' j = gA T 3 j := fun j hj => by
      rw [ho j (by omega)]
      exact h2 j hj
    have q3 : r' 116 = nI t := by
      rw [ho _ (by omega)]
      exact h3
    have q4 : ∀ j, i + 1 ≤ j → j < c → RS r' (116 + 2 + 19 * j) (p j) := fun j hj hjc => (h4 j (by omega) hjc).out (hp j hjc).2.2.1 ho (by omega)
    by_cases hle : aBuyW V L l (min N (50 - t)) t p i ≤ mo
    · refine br_t hle (br_t hle (nm_r (nI_1 i) (r_buy_l hV hL ht hc h1 hp hx hl hy hN m (i + 1) b mo r' (by omega) q2 q3 q4 fun u v S2 h2 => ?_)))
      have := k u v S2 h2
      rw [aBest_t hle] at this
      exact this
    · refine br_f hle (br_f hle (nm_r (nI_1 i) (r_buy_l hV hL ht hc h1 hp hx hl hy hN m (i + 1) _ _ r' (by omega) q2 q3 q4 fun u v S2 h2 => ?_)))
      have := k u v S2 h2
      rw [aBest_f hle] at this
      exact this
theorem c_let_l {K : Int32 → Int32 → Int32 → St → Prop} (hj : j < c) (hx : x = nI j) (hy : y = nI l) (hl : l < 3) (hz : z = nI N) (hN : N ≤ 20) : ∀ (m i : Nat) (b mo : Int32) (S : St), i + m = 5 → TI n S0 T V L t c p S → (∀ u v S', TI n S0 T V L t c p S' → K (aBest (aLetW V L l (min N (50 - t)) t (p j)) m i b mo) u v S') → wl_X11_let_33 x y z K (m + 1) b mo (nI i) S
  | 0, i, b, mo, S, hi, h, k => by
    rw [wl_X11_let_33]
    exact d_ltT 4 i (by omega) (k _ _ _ h)
  | m + 1, i, b, mo, S, hi, h, k => by
    have hc6 := h.td.2.2
    have hvp := (h.vp hj).hang (pl := i) (by omega)
    rw [wl_X11_let_33, hx, nI_clamp (by omega), ← hx]
    refine d_ltF 4 i (by omega) (nm_e ⟨h.w, by rw [hx]; exact vp_in_nI (by omega) (by decide), nm_e ⟨(h.pn hj).1, c_copy isPn57 (h.pn hj).1 (h.pn hj).2 (h.rc hj) fun i1 a1 hr => nm_e (nm_e ?_)⟩⟩)
    rw [sI_sP]
    obtain ⟨q1, q2, q3, fc, q4, q5, q6⟩ := hr
    have hr' : RC (up1 i1 4 (nI i)) a1 (aHang (p j) i) := ⟨by rw [u1_n (by decide)]; exact q1, by rw [u1_n (by decide)]; exact q2, u1_s, fc, q4, by rw [u1_n (by decide)]; exact q5, q6⟩
    have h' := h.trial hr'
    refine ⟨h'.w, c_worthOf (p := aHang (p j) i) (V := V) (L := L) (t := t) (c := min N (50 - t)) h'.w isPn57 h'.2.2.1.1 h'.2.2.1.2.1 h'.td.1 h.td.2.1 hy hl hz hN rfl (by rw [gI_sP, gA_sP]; exact hr') hvp fun i2 a2 p2 hr2 => ?_⟩
    rw [sP_sP]
    have hS' := h.trial hr2
    by_cases hle : aLetW V L l (min N (50 - t)) t (p j) i ≤ mo
    · refine br_t hle (nm_r (nI_1 i) (c_let_l hj hx hy hl hz hN m (i + 1) b mo _ (by omega) hS' fun u v S2 h2 => ?_))
      have := k u v S2 h2
      rw [aBest_t hle] at this
      exact this
    · refine br_f hle (nm_r (nI_1 i) (c_let_l hj hx hy hl hz hN m (i + 1) _ _ _ (by omega) hS' fun u v S2 h2 => ?_))
      have := k u v S2 h2
      rw [aBest_f hle] at this
      exact this
theorem r_let_l {K : Int32 → Int32 → Int32 → St → Prop} {r0 : Nat → Int32} (hV : NR (gA T 1) V 200 99) (hL : NR (gA T 2) L 12 9) (hrw0 : RW r0 0 t c p) (hvw : VW t c p) (hj : j < c) (hx : x = nI j) (hy : y = nI l) (hl : l < 3) (hz : z = nI N) (hN : N ≤ 20) : ∀ (m i : Nat) (b mo : Int32) (r : Nat → Int32), i + m = 5 → (∀ j, j < 116 → r j = r0 j) → (∀ u v r', (∀ j, j < 116 → r' j = r0 j) → K (aBest (aLetW V L l (min N (50 - t)) t (p j)) m i b mo) u v (sU T 0 r')) → wl_X12_let_33 x y z K (m + 1) b mo (nI i) (sU T 0 r)
  | 0, i, b, mo, r, hi, h2, k => by
    rw [wl_X12_let_33]
    exact d_ltT 4 i (by omega) (k _ _ _ h2)
  | m + 1, i, b, mo, r, hi, h2, k => by
    have hc6 := hvw.2.1
    have hvp := (hvw.2.2 j hj).hang (pl := i) (by omega)
    rw [wl_X12_let_33]
    refine d_ltF 4 i (by omega) (r_lends fun r1 hl1 => r_bec (b := 116 + 2 + 19 * j) (k := 2) (At.u rfl (by omega)) hx rfl (by decide) ?_)
    rw [gA_sU, sR_sU]
    have hrw : RW r1 116 t c p := hrw0.eq hvw fun j hj => by rw [Nat.zero_add, hl1.2 j hj, h2 j hj]
    obtain ⟨s1, s2, s3, s4⟩ := hrw.2.2 j hj
    have hs : RS (up1 r1 (116 + 2 + 19 * j + 2) (nI i)) (116 + 2 + 19 * j) (aHang (p j) i) := ⟨by rw [u1_n (by omega)]; exact s1, by rw [u1_n (by omega)]; exact s2, u1_s, fun x hx => by rw [u1_n (by omega)]; exact s4 x hx⟩
    refine ru_worth (b := 116 + 2 + 19 * j) rfl (by omega) hx hV hL (by rw [u1_n (by omega)]; exact hrw.1) hvw.1 hy hl hz hN hs hvp fun r2 ho => nm_r (sI_sU (u' := 0) rfl) ?_
    have q2 : ∀ j, j < 116 → r2 j = r0 j := fun x hx => by rw [ho x (by omega), u1_n (by omega), hl1.1 x hx, h2 x hx]
    by_cases hle : aLetW V L l (min N (50 - t)) t (p j) i ≤ mo
    · refine br_t hle (br_t hle (nm_r (nI_1 i) (r_let_l hV hL hrw0 hvw hj hx hy hl hz hN m (i + 1) b mo r2 (by omega) q2 fun u v S2 h2 => ?_)))
      have := k u v S2 h2
      rw [aBest_t hle] at this
      exact this
    · refine br_f hle (br_f hle (nm_r (nI_1 i) (r_let_l hV hL hrw0 hvw hj hx hy hl hz hN m (i + 1) _ _ r2 (by omega) q2 fun u v S2 h2 => ?_)))
      have := k u v S2 h2
      rw [aBest_f hle] at this
      exact this
def aBoth (V L : Nat → Nat) (l m t : Nat) (q : AP) (k : Nat) : Int32 := nI (aW V L l m t (aCutA k q)) + nI (aW V L l m t (aCutB k q))
theorem c_best_l {K : Int32 → Int32 → Int32 → St → Prop} (hj : j < c) (hx : x = nI j) (hy : y = nI l) (hl : l < 3) (hz : z = nI N) (hN : N ≤ 20) : ∀ (m i : Nat) (b mo : Int32) (S : St), i + m = (p j).2.1 → 1 ≤ i → TI n S0 T V L t c p S → (∀ u v S', TI n S0 T V L t c p S' → K (aBest (aBoth V L l (min N (50 - t)) t (p j)) m i b mo) u v S') → wl_X11_best_34 x y z K (m + 1) b mo (nI i) S
  | 0, i, b, mo, S, hi, hi1, h, k => by
    have hc6 := h.td.2.2
    have hn := (h.vp hj).2.2.1
    rw [wl_X11_best_34, hx, nI_clamp (by omega)]
    refine nm_e ⟨h.w, vp_in_nI (by omega) (by decide), nm_e ⟨(h.pn hj).1, ?_⟩⟩
    rw [(h.rc hj).2.1]
    exact d_leT (p j).2.1 i (by omega) (k _ _ _ h)
  | m + 1, i, b, mo, S, hi, hi1, h, k => by
    have hc6 := h.td.2.2
    have hn := (h.vp hj).2.2.1
    have hvA := (h.vp hj).cutA hi1 (by omega)
    have hvB := (h.vp hj).cutB (k := i) (by omega)
    rw [wl_X11_best_34, hx, nI_clamp (by omega)]
    refine nm_e ⟨h.w, vp_in_nI (by omega) (by decide), nm_e ⟨(h.pn hj).1, ?_⟩⟩
    rw [(h.rc hj).2.1]
    refine d_leF (p j).2.1 i (by omega) ⟨vp_in_nI (by omega) (by decide), nm_e ⟨(h.pn hj).1, ?_⟩⟩
    rw [← hx]
    unfold wp_X11_worthCut
    refine ⟨(h.pn hj).1, c_copy isPn57 (h.pn hj).1 (h.pn hj).2 (h.rc hj) fun i1 a1 hr => nm_e (nm_e ?_)⟩
    rw [sI_sP]
    obtain ⟨q1, q2, q3, fc, q4, q5, q6⟩ := hr
    have hrA : RC (up1 i1 3 (nI i)) a1 (aCutA i (p j)) := ⟨by rw [u1_n (by decide)]; exact q1, u1_s, by rw [u1_n (by decide)]; exact q3, fc, q4, by rw [u1_n (by decide)]; exact q5, fun x hx => q6 x (by have hx' : x < i := hx; omega)⟩
    have hA := h.trial hrA
    refine ⟨hA.w, c_worthOf (p := aCutA i (p j)) (V := V) (L := L) (t := t) (c := min N (50 - t)) hA.w isPn57 hA.2.2.1.1 hA.2.2.1.2.1 hA.td.1 h.td.2.1 hy hl hz hN rfl (by rw [gI_sP, gA_sP]; exact hrA) hvA fun i2 a2 p2 hr2 => ?_⟩
    rw [sP_sP]
    have h2 := h.trial hr2
    have hr2' := hr2
    obtain ⟨-, -, -, fc2, q7, q8, -⟩ := hr2'
    refine c_behind (k := i) (p := p j) isPn57 (h.pn hj).1 (h.pn hj).2 (h2.rc hj) (h.vp hj) rfl (by omega) q7 (by rw [gI_sP]; exact q8) fun i3 a3 hr3 => nm_e ?_
    rw [sP_sP]
    have hB := h.trial hr3
    refine ⟨hB.w, c_worthOf (p := aCutB i (p j)) (V := V) (L := L) (t := t) (c := min N (50 - t)) hB.w isPn57 hB.2.2.1.1 hB.2.2.1.2.1 hB.td.1 h.td.2.1 hy hl hz hN rfl (by rw [gI_sP, gA_sP]; exact hr3) hvB fun i4 a4 p4 hr4 => ?_⟩
    rw [sP_sP]
    have hS' := h.trial hr4
    by_cases hle : aBoth V L l (min N (50 - t)) t (p j) i ≤ mo
    · refine br_t hle (nm_r (nI_1 i) (c_best_l hj hx hy hl hz hN m (i + 1) b mo _ (by omega) (by omega) hS' fun u v S2 h2 => ?_))
      have := k u v S2 h2
      rw [aBest_t hle] at this
      exact this
    · refine br_f hle (nm_r (nI_1 i) (c_best_l hj hx hy hl hz hN m (i + 1) _ _ _ (by omega) (by omega) hS' fun u v S2 h2 => ?_))
      have := k u v S2 h2
      rw [aBest_f hle] at this
      exact this
theorem r_best_j {B : Int32 → Int32 → Int32 → St → Prop} {i j2 : Nat} {b mo w : Int32} {r r0 : Nat → Int32} (hV : NR (gA T 1) V 200 99) (hL : NR (gA T 2) L 12 9) (hr : RW r 116 t c p) (hvw : VW t c p) (hj : j < c) (hx : x = nI j) (hy : y = nI l) (hl : l < 3) (hz : z = nI N) (hN : N ≤ 20) (hi : 1 ≤ i) (hi2 : i < (p j).2.1) (hw : w = nI j2) (hj2 : j2 < 6) (hne : j2 ≠ j) (h2 : ∀ j, j < 116 → r j = r0 j) (k : ∀ r', (∀ j, j < 116 → r' j = r0 j) → (aBoth V L l (min N (50 - t)) t (p j) i ≤ mo → B b mo (nI (i + 1)) (sU T 0 r')) ∧ (¬ aBoth V L l (min N (50 - t)) t (p j) i ≤ mo → B (nI i) (aBoth V L l (min N (50 - t)) t (p j) i) (nI (i + 1)) (sU T 0 r'))) : wj_X12_best_62 x y z b mo (nI i) B w (sU T 116 r) := by
  have hc6 := hvw.2.1
  have hvp := hvw.2.2 j hj
  have hvA := hvp.cutA hi hi2
  have hvB := hvp.cutB hi2
  unfold wj_X12_best_62
  refine r_cuts (T := sU T 116 r) (b := 116 + 2 + 19 * j) (b2 := 116 + 2 + 19 * j2) (p2 := j2) (k := i) (At.u rfl (by omega)) (At.u rfl (by omega)) (by omega) hx rfl hw (by rw [gA_sU]; exact hr.2.2 j hj) hvp hi2 fun r1 s1 s2 o1 => ?_
  rw [sR_sU]
  rw [gA_sU] at o1
  refine ru_worth (b := 116 + 2 + 19 * j) rfl (by omega) hx hV hL (by rw [o1 116 (by omega) (by omega)]; exact hr.1) hvw.1 hy hl hz hN s1 hvA fun r2 o2 => ?_
  refine ru_worth (b := 116 + 2 + 19 * j2) rfl (by omega) hw hV hL (by rw [o2 116 (by omega), o1 116 (by omega) (by omega)]; exact hr.1) hvw.1 hy hl hz hN (s2.out hvB.2.2.1 o2 (by omega)) hvB fun r3 o3 => nm_e (nm_r (sI_sU (u' := 0) rfl) ?_)
  have q2 : ∀ j, j < 116 → r3 j = r0 j := fun x hx => by rw [o3 x (by omega), o2 x (by omega), o1 x (by omega) (by omega), h2 x hx]
  obtain ⟨k1, k2⟩ := k r3 q2
  have e : nI (aW V L l (min N (50 - t)) t (aCutA i (p j))) + nI (aW V L l (min N (50 - t)) t (aCutB i (p j))) = aBoth V L l (min N (50 - t)) t (p j) i := rfl
  rw [e]
  by_cases hle : aBoth V L l (min N (50 - t)) t (p j) i ≤ mo
  · exact br_t hle (br_t hle (nm_r (nI_1 i) (k1 hle)))
  · exact br_f hle (br_f hle (nm_r (nI_1 i) (k2 hle)))
theorem r_best_l {K : Int32 → Int32 → Int32 → St → Prop} {r0 : Nat → Int32} {w : Int32} (hV : NR (gA T 1) V 200 99) (hL : NR (gA T 2) L 12 9) (hrw0 : RW r0 0 t c p) (hvw : VW t c p) (hj : j < c) (hx : x = nI j) (hy : y = nI l) (hl : l < 3) (hz : z = nI N) (hN : N ≤ 20) (hw : w = nI (p j).2.1) : ∀ (m i : Nat) (b mo : Int32) (r : Nat → Int32), i + m = (p j).2.1 → 1 ≤ i → (∀ j, j < 116 → r j = r0 j) → (∀ u v r', (∀ j, j < 116 → r' j = r0 j) → K (aBest (aBoth V L l (min N (50 - t)) t (p j)) m i b mo) u v (sU T 0 r')) → wl_X12_best_42 x y z w K (m + 1) b mo (nI i) (sU T 0 r)
  | 0, i, b, mo, r, hi, hi1, h2, k => by
    have hn := (hvw.2.2 j hj).2.2.1
    rw [wl_X12_best_42]
    exact d_leT (p j).2.1 i (by omega) (k _ _ _ h2) hw
  | m + 1, i, b, mo, r, hi, hi1, h2, k => by
    have hc6 := hvw.2.1
    have hn := (hvw.2.2 j hj).2.2.1
    rw [wl_X12_best_42]
    refine d_leF (p j).2.1 i (by omega) (r_lends fun r1 hl1 => ?_) hw
    have hrw : RW r1 116 t c p := hrw0.eq hvw fun j hj => by rw [Nat.zero_add, hl1.2 j hj, h2 j hj]
    have q2 : ∀ j, j < 116 → r1 j = r0 j := fun x hx => by rw [hl1.1 x hx, h2 x hx]
    have key : ∀ (j2 : Nat) (v : Int32), v = nI j2 → j2 < 6 → j2 ≠ j → wj_X12_best_62 x y z b mo (nI i) (fun b0 b1 b2 b => wl_X12_best_42 x y z w K (m + 1) b0 b1 b2 b) v (sU T 116 r1) := by
      intro j2 v hv hj2 hne
      refine r_best_j hV hL hrw hvw hj hx hy hl hz hN hi1 (by omega) hv hj2 hne q2 fun r3 q3 => ⟨fun hle => ?_, fun hle => ?_⟩
      · refine r_best_l hV hL hrw0 hvw hj hx hy hl hz hN hw m (i + 1) b mo r3 (by omega) (by omega) q3 fun u v S2 h2 => ?_
        have := k u v S2 h2
        rw [aBest_t hle] at this
        exact this
      · refine r_best_l hV hL hrw0 hvw hj hx hy hl hz hN hw m (i + 1) _ _ r3 (by omega) (by omega) q3 fun u v S2 h2 => ?_
        have := k u v S2 h2
        rw [aBest_f hle] at this
        exact this
    exact pk_eq j 0 (fun e => key 1 _ rfl (by decide) (by omega)) (fun e => key 0 _ rfl (by decide) (by omega)) hx
end BEST
theorem st_buy : step_buy Rel := by
  intro n S T a1 a2 hn h
  have hw := h.1.w
  have h0 := h.2.2.1
  obtain ⟨V, L, t, c, p, hC⟩ := h.2.2.2.1
  have hc3 : gI S (gN S 0 8) 3 = nI c := hC.1.2.2.1
  have ht4 : gI S (gN S 0 8) 4 = nI t := hC.1.2.2.2.1
  have hc6 : c ≤ 6 := hC.2.1.2.1
  have ht5 : t ≤ 50 := hC.2.1.1
  have hr1 : gA T 3 1 = nI c := hC.2.2.2.2.1.2.1
  have hr0 : gA T 3 0 = nI t := hC.2.2.2.2.1.1
  unfold wp_X11_buy
  rcases rng a1 0 3 (by omega) with b | ⟨j1, g1, h1, rfl⟩
  · exact c_looker_b b (d_0 ((by unfold wp_X12_buy; exact r_looker_b b (d_0 (⟨rfl, h⟩)))))
  rcases rng a2 1 21 (by omega) with b | ⟨j2, g2, h2, rfl⟩
  · exact c_looker_t h1 (d_1 (c_long_b b (d_0 ((by unfold wp_X12_buy; exact r_looker_t h1 (d_1 (r_long_b b (d_0 (⟨rfl, h⟩)))))))))
  have hTI : TI n S T V L t c p S := ⟨rfl, h, hC⟩
  refine c_looker_t h1 (d_1 (c_long_t g2 h2 (d_1 (?_))))
  refine ⟨c + 1, c_buy_l (l := j1) (N := j2) rfl h1 rfl (by omega) c 0 _ _ S (by omega) hTI fun u v S' hS' => ?_⟩
  unfold wp_X12_buy
  refine r_looker_t h1 (d_1 (r_long_t g2 h2 (d_1 (?_))))
  refine r_lends0 h0 fun r' hl => ⟨c + 1, ?_⟩
  have hrw := hC.2.2.2.2.1.lent hC.2.1 hl
  refine r_buy_l (T := T) (V := V) (L := L) (t := t) (c := c) (p := p) (l := j1) (N := j2) hC.2.2.1 hC.2.2.2.1 ht5 hc6 hr1 hC.2.1.2.2 rfl h1 rfl (by omega) c 0 _ _ r' (by omega) hl.1 hrw.1 (fun j _ hj => hrw.2.2 j hj) fun u2 v2 r2 h2' => nm_r (sI_sU (u' := 0) rfl) ⟨rfl, hS'.2.1.lentU h2'⟩
theorem st_let : step_let Rel := by
  intro n S T a1 a2 a3 hn h
  have hw := h.1.w
  have h0 := h.2.2.1
  obtain ⟨V, L, t, c, p, hC⟩ := h.2.2.2.1
  have hc3 : gI S (gN S 0 8) 3 = nI c := hC.1.2.2.1
  have ht4 : gI S (gN S 0 8) 4 = nI t := hC.1.2.2.2.1
  have hc6 : c ≤ 6 := hC.2.1.2.1
  have ht5 : t ≤ 50 := hC.2.1.1
  have hr1 : gA T 3 1 = nI c := hC.2.2.2.2.1.2.1
  have hr0 : gA T 3 0 = nI t := hC.2.2.2.2.1.1
  unfold wp_X11_let
  rcases rng a1 0 c (by omega) with b | ⟨j1, g1, h1, rfl⟩
  · exact c_pane_b hw hc3 hc6 b (d_0 ((by unfold wp_X12_let; exact r_pane_b hr1 hc6 b (d_0 (⟨rfl, h⟩)))))
  rcases rng a2 0 3 (by omega) with b | ⟨j2, g2, h2, rfl⟩
  · exact c_pane_t hw hc3 hc6 h1 (d_1 (c_looker_b b (d_0 ((by unfold wp_X12_let; exact r_pane_t hr1 hc6 h1 (d_1 (r_looker_b b (d_0 (⟨rfl, h⟩)))))))))
  rcases rng a3 1 21 (by omega) with b | ⟨j3, g3, h3, rfl⟩
  · exact c_pane_t hw hc3 hc6 h1 (d_1 (c_looker_t h2 (d_1 (c_long_b b (d_0 ((by unfold wp_X12_let; exact r_pane_t hr1 hc6 h1 (d_1 (r_looker_t h2 (d_1 (r_long_b b (d_0 (⟨rfl, h⟩)))))))))))))
  have hP1 := (h.1.2.1 _ j1 hw (by omega)).1
  have hQ1 := (h.1.2.1 _ j1 hw (by omega)).2
  have hrc1 := hC.1.2.2.2.2 j1 h1
  have hv1 := hC.2.1.2.2 j1 h1
  have hat1 : At T 0 j1 (0 + 2 + 19 * j1) := ⟨h0, rfl, by omega⟩
  have hrs1 := hC.2.2.2.2.1.2.2 j1 h1
  have hTI : TI n S T V L t c p S := ⟨rfl, h, hC⟩
  refine c_pane_t hw hc3 hc6 h1 (d_1 (c_looker_t h2 (d_1 (c_long_t g3 h3 (d_1 (?_))))))
  refine ⟨5 + 1, c_let_l (j := j1) (l := j2) (N := j3) h1 rfl rfl h2 rfl (by omega) 5 0 _ _ S (by omega) hTI fun u v S' hS' => ?_⟩
  unfold wp_X12_let
  refine r_pane_t hr1 hc6 h1 (d_1 (r_looker_t h2 (d_1 (r_long_t g3 h3 (d_1 (?_))))))
  have := r_let_l (T := T) (V := V) (L := L) (t := t) (c := c) (p := p) (j := j1) (l := j2) (N := j3) (x := nI j1) (y := nI j2) (z := nI j3) (r0 := gA T 3) (K := fun e4 e5 e6 S26 => aBest (aLetW V L j2 (min j3 (50 - t)) t (p j1)) 5 0 0 (-1) = e4 ∧ Rel n S' S26) hC.2.2.1 hC.2.2.2.1 hC.2.2.2.2.1 hC.2.1 h1 rfl rfl h2 rfl (by omega) 5 0 (0 : Int32) (-1 : Int32) (gA T 3) (by omega) (fun _ _ => rfl) fun u2 v2 r2 h2' => ⟨rfl, hS'.2.1.lentU h2'⟩
  rw [sU_self h0] at this
  exact ⟨5 + 1, this⟩
theorem st_best : step_best Rel := by
  intro n S T a1 a2 a3 hn h
  have hw := h.1.w
  have h0 := h.2.2.1
  obtain ⟨V, L, t, c, p, hC⟩ := h.2.2.2.1
  have hc3 : gI S (gN S 0 8) 3 = nI c := hC.1.2.2.1
  have ht4 : gI S (gN S 0 8) 4 = nI t := hC.1.2.2.2.1
  have hc6 : c ≤ 6 := hC.2.1.2.1
  have ht5 : t ≤ 50 := hC.2.1.1
  have hr1 : gA T 3 1 = nI c := hC.2.2.2.2.1.2.1
  have hr0 : gA T 3 0 = nI t := hC.2.2.2.2.1.1
  unfold wp_X11_best
  rcases rng a1 0 c (by omega) with b | ⟨j1, g1, h1, rfl⟩
  · exact c_pane_b hw hc3 hc6 b (d_0 ((by unfold wp_X12_best; exact r_pane_b hr1 hc6 b (d_0 (⟨rfl, h⟩)))))
  rcases rng a2 0 3 (by omega) with b | ⟨j2, g2, h2, rfl⟩
  · exact c_pane_t hw hc3 hc6 h1 (d_1 (c_looker_b b (d_0 ((by unfold wp_X12_best; exact r_pane_t hr1 hc6 h1 (d_1 (r_looker_b b (d_0 (⟨rfl, h⟩)))))))))
  rcases rng a3 1 21 (by omega) with b | ⟨j3, g3, h3, rfl⟩
  · exact c_pane_t hw hc3 hc6 h1 (d_1 (c_looker_t h2 (d_1 (c_long_b b (d_0 ((by unfold wp_X12_best; exact r_pane_t hr1 hc6 h1 (d_1 (r_looker_t h2 (d_1 (r_long_b b (d_0 (⟨rfl, h⟩)))))))))))))
  have hP1 := (h.1.2.1 _ j1 hw (by omega)).1
  have hQ1 := (h.1.2.1 _ j1 hw (by omega)).2
  have hrc1 := hC.1.2.2.2.2 j1 h1
  have hv1 := hC.2.1.2.2 j1 h1
  have hat1 : At T 0 j1 (0 + 2 + 19 * j1) := ⟨h0, rfl, by omega⟩
  have hrs1 := hC.2.2.2.2.1.2.2 j1 h1
  have hTI : TI n S T V L t c p S := ⟨rfl, h, hC⟩
  refine c_pane_t hw hc3 hc6 h1 (d_1 (c_looker_t h2 (d_1 (c_long_t g3 h3 (d_1 (?_))))))
  have hn1 := hv1.2.1
  refine ⟨(p j1).2.1 - 1 + 1, c_best_l (j := j1) (l := j2) (N := j3) h1 rfl rfl h2 rfl (by omega) ((p j1).2.1 - 1) 1 _ _ S (by omega) (by omega) hTI fun u v S' hS' => ?_⟩
  unfold wp_X12_best
  refine r_pane_t hr1 hc6 h1 (d_1 (r_looker_t h2 (d_1 (r_long_t g3 h3 (d_1 (?_))))))
  refine r_its hat1 rfl (k := 1) rfl (by decide) ?_
  rw [hrs1.2.1]
  have := r_best_l (T := T) (V := V) (L := L) (t := t) (c := c) (p := p) (j := j1) (l := j2) (N := j3) (x := nI j1) (y := nI j2) (z := nI j3) (w := nI (p j1).2.1) (r0 := gA T 3) (K := fun e4 e5 e6 S26 => aBest (aBoth V L j2 (min j3 (50 - t)) t (p j1)) ((p j1).2.1 - 1) 1 (-3) (-1) = e4 ∧ Rel n S' S26) hC.2.2.1 hC.2.2.2.1 hC.2.2.2.2.1 hC.2.1 h1 rfl rfl h2 rfl (by omega) rfl ((p j1).2.1 - 1) 1 (-3 : Int32) (-1 : Int32) (gA T 3) (by omega) (by omega) (fun _ _ => rfl) fun u2 v2 r2 h2' => ⟨rfl, hS'.2.1.lentU h2'⟩
  rw [sU_self h0] at this
  exact ⟨(p j1).2.1 - 1 + 1, this⟩
