/-! STEPS with the trial pane -/
theorem r_lends0 {T : St} {Q : St → Prop} (h0 : gI T 0 3 = nI 0) (k : ∀ r', aLent (gA T 3) r' → Q (sU T 116 r')) : wp_X12_lends T Q := by
  have := r_lends (T := T) (u := 0) (r := gA T 3) k
  rw [sU_self h0] at this
  exact this
theorem RW.lent {r r' : Nat → Int32} {t c : Nat} {p : Nat → AP} (h : RW r 0 t c p) (hp : VW t c p) (hl : aLent r r') : RW r' 116 t c p := h.eq hp fun j hj => by
  rw [Nat.zero_add]
  exact hl.2 j hj
section UU
variable {T : St} {u p b l n t c d : Nat} {r : Nat → Int32} {x y z : Int32} {V L : Nat → Nat} {q : AP}
theorem ru_worth {Q : Int32 → St → Prop} (hb : b = u + 2 + 19 * p) (hb2 : b + 19 ≤ 232) (hx : x = nI p) (hV : NR (gA T 1) V 200 99) (hL : NR (gA T 2) L 12 9) (ht : r u = nI t) (ht5 : t ≤ 50) (hy : y = nI l) (hl : l < 3) (hz : z = nI n) (hn : n ≤ 20) (hr : RS r b q) (hq : VPa q) (k : ∀ r', Out r r' b → Q (nI (aW V L l (min n (50 - t)) t q)) (sU T u r')) : wp_X12_worthOf x y z (sU T u r) Q :=
  r_worthOf (T := sU T u r) (c := min n (50 - t)) (At.u hb hb2) hx (by rw [gA_sUn (by decide)]; exact hV) (by rw [gA_sUn (by decide)]; exact hL) (by rw [gA_sU]; exact ht) ht5 hy hl hz hn rfl (by rw [gA_sU]; exact hr) hq fun r' ho => by
    rw [sR_sU]
    rw [gA_sU] at ho
    exact k r' ho
theorem ru_moves {Q : St → Prop} (hb : b = u + 2 + 19 * p) (hb2 : b + 19 ≤ 232) (hx : x = nI p) (hr : RS r b q) (hq : VPa q) (hy : y = nI d) (hd : d < 50) (k : ∀ r', RS r' b (aPass d q) → Out r r' b → Q (sU T u r')) : wp_X12_moves x y (sU T u r) Q :=
  r_moves (T := sU T u r) (At.u hb hb2) hx (by rw [gA_sU]; exact hr) hq hy hd fun r' hs ho => by
    rw [sR_sU]
    rw [gA_sU] at ho
    exact k r' hs ho
theorem ru_turns {Q : St → Prop} (hb : b = u + 2 + 19 * p) (hb2 : b + 19 ≤ 232) (hx : x = nI p) (hr : RS r b q) (hq : VPa q) (k : ∀ r', RS r' b (aTurn q) → Out r r' b → Q (sU T u r')) : wp_X12_turns x (sU T u r) Q :=
  r_turns (T := sU T u r) (At.u hb hb2) hx (by rw [gA_sU]; exact hr) hq fun r' hs ho => by
    rw [sR_sU]
    rw [gA_sU] at ho
    exact k r' hs ho
theorem ru_shown {Q : Int32 → St → Prop} (hb : b = u + 2 + 19 * p) (hb2 : b + 19 ≤ 232) (hx : x = nI p) (hV : NR (gA T 1) V 200 99) (hr : RS r b q) (hq : VPa q) (k : Q (nI (aShown V q)) (sU T u r)) : wp_X12_shown x (sU T u r) Q :=
  r_shown (T := sU T u r) (At.u hb hb2) hx (by rw [gA_sU]; exact hr) hq (by rw [gA_sUn (by decide)]; exact hV) k
theorem ru_last {Q : Int32 → St → Prop} (hb : b = u + 2 + 19 * p) (hb2 : b + 19 ≤ 232) (hx : x = nI p) (hr : RS r b q) (hq : VPa q) (k : Q (eI (aLast q)) (sU T u r)) : wp_X12_lastOf x (sU T u r) Q :=
  r_last (T := sU T u r) (At.u hb hb2) hx (by rw [gA_sU]; exact hr) hq k
end UU
/-- after m days from d on -/
def aAt (d : Nat) (q : AP) : Nat → AP
  | 0 => q
  | m + 1 => aPass (d + m) (aAt d q m)
theorem VPa.at {q : AP} (h : VPa q) {d : Nat} : ∀ m, d + m ≤ 50 → VPa (aAt d q m)
  | 0, _ => h
  | m + 1, hm => (VPa.at h m (by omega)).pass (by omega)
/-- as at the beginning, but for the trial pane -/
def TI (n : List Nat) (S0 T : St) (V L : Nat → Nat) (t c : Nat) (p : Nat → AP) (S : St) : Prop := gN S = gN S0 ∧ Rel n S T ∧ Cur S T V L t c p
theorem TI.trial {n : List Nat} {S0 S T : St} {V L : Nat → Nat} {t c : Nat} {p : Nat → AP} {i a : Nat → Int32} {q : AP} (h : TI n S0 T V L t c p S) (hr : RC i a q) : TI n S0 T V L t c p (sP S 57 i a) := by
  obtain ⟨h1, h2, h3⟩ := h
  refine ⟨h1, h2.trial hr, ?_⟩
  obtain ⟨g1, g2, g3, g4, g5, g6⟩ := h3
  refine ⟨g1.setP h2.1.w isPn57 (fun j hj => Or.inr ⟨(h2.1.2.1 _ _ h2.1.w (by have := g2.2.1; omega)).2, rfl⟩), g2, g3, g4, g5, ?_⟩
  rw [show gN (sP S 57 i a) 0 8 = gN S 0 8 from rfl, gI_sPn (by rcases h2.1.w with e | e | e <;> rw [e] <;> decide)]
  exact g6
theorem w_ne57 {S : St} (h : IC S) : gN S 0 8 ≠ 57 ∧ gN S 0 8 + 1 ≠ 58 ∧ gN S 0 8 + 2 ≠ 58 := by
  rcases h.c with e | e <;> rw [e] <;> decide
section CT
variable {n : List Nat} {S S0 T : St} {V L : Nat → Nat} {t c j l m : Nat} {p : Nat → AP} {x y z : Int32}
theorem TI.w (h : TI n S0 T V L t c p S) : isW (gN S 0 8) := h.2.1.1.w
theorem TI.pn (h : TI n S0 T V L t c p S) (hj : j < c) : isPn (gN S (gN S 0 8 + 3) j) ∧ gN S (gN S 0 8 + 3) j ≠ 57 := h.2.1.1.2.1 _ j h.w (by have := h.2.2.2.1.2.1; omega)
theorem TI.rc (h : TI n S0 T V L t c p S) (hj : j < c) : RC (gI S (gN S (gN S 0 8 + 3) j)) (gA S (gN S (gN S 0 8 + 3) j + 1)) (p j) := h.2.2.1.2.2.2.2 j hj
theorem TI.vp (h : TI n S0 T V L t c p S) (hj : j < c) : VPa (p j) := h.2.2.2.1.2.2 j hj
theorem TI.td (h : TI n S0 T V L t c p S) : gI S (gN S 0 8) 4 = nI t ∧ t ≤ 50 ∧ c ≤ 6 := ⟨h.2.2.1.2.2.2.1, h.2.2.2.1.1, h.2.2.2.1.2.1⟩
theorem TI.c3 (h : TI n S0 T V L t c p S) : gI S (gN S 0 8) 3 = nI c := h.2.2.1.2.2.1
theorem c_worthAsIs {Q : Int32 → St → Prop} (h : TI n S0 T V L t c p S) (hj : j < c) (hx : x = nI j) (hy : y = nI l) (hl : l < 3) (hz : z = nI m) (hm : m ≤ 20) (q : ∀ S', TI n S0 T V L t c p S' → Q (nI (aW V L l (min m (50 - t)) t (p j))) S') : wp_X11_worthAsIs x y z S Q := by
  have hc6 := h.td.2.2
  have hw57 := w_ne57 h.2.1.1
  unfold wp_X11_worthAsIs
  rw [hx, nI_clamp (by omega)]
  refine nm_e ⟨h.w, vp_in_nI (by omega) (by decide), nm_e ⟨(h.pn hj).1, c_copy isPn57 (h.pn hj).1 (h.pn hj).2 (h.rc hj) fun i a hr => nm_e ⟨h.w, ?_⟩⟩⟩
  have h' := h.trial hr
  refine c_worthOf (S := sP S 57 i a) (p := p j) (V := V) (L := L) (t := t) (c := min m (50 - t)) h'.w isPn57 h'.2.2.1.1 h'.2.2.1.2.1 h'.td.1 h.td.2.1 hy hl hz hm rfl (by rw [gI_sP, gA_sP]; exact hr) (h.vp hj) fun i' a' p' hr' => ?_
  rw [sP_sP]
  exact q _ (h.trial hr')
end CT
theorem st_worth : step_worth Rel := by
  intro n S T a1 a2 a3 hn h
  have hw := h.1.w
  have h0 := h.2.2.1
  obtain ⟨V, L, t, c, p, hC⟩ := h.2.2.2.1
  have hc3 : gI S (gN S 0 8) 3 = nI c := hC.1.2.2.1
  have ht4 : gI S (gN S 0 8) 4 = nI t := hC.1.2.2.2.1
  have hc6 : c ≤ 6 := hC.2.1.2.1
  have ht5 : t ≤ 50 := hC.2.1.1
  have hr1 : gA T 3 1 = nI c := hC.2.2.2.2.1.2.1
  have hr0 : gA T 3 0 = nI t := hC.2.2.2.2.1.1
  unfold wp_X11_worth
  rcases rng a1 0 c (by omega) with b | ⟨j1, g1, h1, rfl⟩
  · exact c_pane_b hw hc3 hc6 b (d_0 ((by unfold wp_X12_worth; exact r_pane_b hr1 hc6 b (d_0 (⟨rfl, h⟩)))))
  rcases rng a2 0 3 (by omega) with b | ⟨j2, g2, h2, rfl⟩
  · exact c_pane_t hw hc3 hc6 h1 (d_1 (c_looker_b b (d_0 ((by unfold wp_X12_worth; exact r_pane_t hr1 hc6 h1 (d_1 (r_looker_b b (d_0 (⟨rfl, h⟩)))))))))
  rcases rng a3 1 21 (by omega) with b | ⟨j3, g3, h3, rfl⟩
  · exact c_pane_t hw hc3 hc6 h1 (d_1 (c_looker_t h2 (d_1 (c_long_b b (d_0 ((by unfold wp_X12_worth; exact r_pane_t hr1 hc6 h1 (d_1 (r_looker_t h2 (d_1 (r_long_b b (d_0 (⟨rfl, h⟩)))))))))))))
  have hP1 := (h.1.2.1 _ j1 hw (by omega)).1
  have hQ1 := (h.1.2.1 _ j1 hw (by omega)).2
  have hrc1 := hC.1.2.2.2.2 j1 h1
  have hv1 := hC.2.1.2.2 j1 h1
  have hat1 : At T 0 j1 (0 + 2 + 19 * j1) := ⟨h0, rfl, by omega⟩
  have hrs1 := hC.2.2.2.2.1.2.2 j1 h1
  have hTI : TI n S T V L t c p S := ⟨rfl, h, hC⟩
  refine c_pane_t hw hc3 hc6 h1 (d_1 (c_looker_t h2 (d_1 (c_long_t g3 h3 (d_1 (?_))))))
  refine c_worthAsIs hTI h1 rfl rfl h2 rfl (by omega) fun S' hS' => ?_
  unfold wp_X12_worth
  refine r_pane_t hr1 hc6 h1 (d_1 (r_looker_t h2 (d_1 (r_long_t g3 h3 (d_1 (?_))))))
  refine r_lends0 h0 fun r' hl => ?_
  have hrw := hC.2.2.2.2.1.lent hC.2.1 hl
  refine ru_worth (b := 116 + 2 + 19 * j1) rfl (by omega) rfl hC.2.2.1 hC.2.2.2.1 hrw.1 ht5 rfl h2 rfl (by omega) (hrw.2.2 j1 h1) hv1 fun r2 ho => nm_r (sI_sU (u' := 0) rfl) ⟨rfl, hS'.2.1.lentU fun j hj => ?_⟩
  rw [ho j (by omega)]
  exact hl.1 j hj
theorem st_turned : step_turned Rel := by
  intro n S T a1 a2 a3 hn h
  have hw := h.1.w
  have h0 := h.2.2.1
  obtain ⟨V, L, t, c, p, hC⟩ := h.2.2.2.1
  have hc3 : gI S (gN S 0 8) 3 = nI c := hC.1.2.2.1
  have ht4 : gI S (gN S 0 8) 4 = nI t := hC.1.2.2.2.1
  have hc6 : c ≤ 6 := hC.2.1.2.1
  have ht5 : t ≤ 50 := hC.2.1.1
  have hr1 : gA T 3 1 = nI c := hC.2.2.2.2.1.2.1
  have hr0 : gA T 3 0 = nI t := hC.2.2.2.2.1.1
  unfold wp_X11_turned
  rcases rng a1 0 c (by omega) with b | ⟨j1, g1, h1, rfl⟩
  · exact c_pane_b hw hc3 hc6 b (d_0 ((by unfold wp_X12_turned; exact r_pane_b hr1 hc6 b (d_0 (⟨rfl, h⟩)))))
  rcases rng a2 0 3 (by omega) with b | ⟨j2, g2, h2, rfl⟩
  · exact c_pane_t hw hc3 hc6 h1 (d_1 (c_looker_b b (d_0 ((by unfold wp_X12_turned; exact r_pane_t hr1 hc6 h1 (d_1 (r_looker_b b (d_0 (⟨rfl, h⟩)))))))))
  rcases rng a3 1 21 (by omega) with b | ⟨j3, g3, h3, rfl⟩
  · exact c_pane_t hw hc3 hc6 h1 (d_1 (c_looker_t h2 (d_1 (c_long_b b (d_0 ((by unfold wp_X12_turned; exact r_pane_t hr1 hc6 h1 (d_1 (r_looker_t h2 (d_1 (r_long_b b (d_0 (⟨rfl, h⟩)))))))))))))
  have hP1 := (h.1.2.1 _ j1 hw (by omega)).1
  have hQ1 := (h.1.2.1 _ j1 hw (by omega)).2
  have hrc1 := hC.1.2.2.2.2 j1 h1
  have hv1 := hC.2.1.2.2 j1 h1
  have hat1 : At T 0 j1 (0 + 2 + 19 * j1) := ⟨h0, rfl, by omega⟩
  have hrs1 := hC.2.2.2.2.1.2.2 j1 h1
  have hTI : TI n S T V L t c p S := ⟨rfl, h, hC⟩
  refine c_pane_t hw hc3 hc6 h1 (d_1 (c_looker_t h2 (d_1 (c_long_t g3 h3 (d_1 (?_))))))
  rw [nI_clamp (by omega)]
  refine nm_e ⟨hw, vp_in_nI (by omega) (by decide), nm_e ⟨hP1, c_copy isPn57 hP1 hQ1 hrc1 fun i a hr => c_turn (S := sP S 57 i a) isPn57 (by rw [gI_sP, gA_sP]; exact hr) hv1 fun i2 a2 hr2 => ?_⟩⟩
  rw [sP_sP]
  have h' := hTI.trial hr2
  refine nm_e ⟨h'.w, c_worthOf (S := sP S 57 i2 a2) (p := aTurn (p j1)) (V := V) (L := L) (t := t) (c := min j3 (50 - t)) h'.w isPn57 h'.2.2.1.1 h'.2.2.1.2.1 h'.td.1 ht5 rfl h2 rfl (by omega) rfl (by rw [gI_sP, gA_sP]; exact hr2) hv1.turn fun i3 a3 p3 hr3 => ?_⟩
  rw [sP_sP]
  refine c_worthAsIs (hTI.trial hr3) h1 rfl rfl h2 rfl (by omega) fun S' hS' => ?_
  unfold wp_X12_turned
  refine r_pane_t hr1 hc6 h1 (d_1 (r_looker_t h2 (d_1 (r_long_t g3 h3 (d_1 (?_))))))
  unfold wp_X12_worth
  refine r_pane_t hr1 hc6 h1 (d_1 (r_looker_t h2 (d_1 (r_long_t g3 h3 (d_1 (r_lends0 h0 fun r' hl => ?_))))))
  have hrw := hC.2.2.2.2.1.lent hC.2.1 hl
  refine ru_worth (b := 116 + 2 + 19 * j1) rfl (by omega) rfl hC.2.2.1 hC.2.2.2.1 hrw.1 ht5 rfl h2 rfl (by omega) (hrw.2.2 j1 h1) hv1 fun r2 ho => nm_r (sI_sU (u' := 0) rfl) (r_lends fun r3 hl3 => ?_)
  have e2 : ∀ j, j < 116 → r2 j = gA T 3 j := fun j hj => by
    rw [ho j (by omega)]
    exact hl.1 j hj
  have hrw3 : RW r3 116 t c p := hC.2.2.2.2.1.eq hC.2.1 fun j hj => by
    rw [Nat.zero_add, hl3.2 j hj]
    exact e2 j hj
  refine ru_turns (b := 116 + 2 + 19 * j1) rfl (by omega) rfl (hrw3.2.2 j1 h1) hv1 fun r4 hs4 ho4 => ?_
  refine ru_worth (b := 116 + 2 + 19 * j1) rfl (by omega) rfl hC.2.2.1 hC.2.2.2.1 (by rw [ho4 _ (by omega)]; exact hrw3.1) ht5 rfl h2 rfl (by omega) hs4 hv1.turn fun r5 ho5 => nm_r (sI_sU (u' := 0) rfl) ⟨?_, hS'.2.1.lentU fun j hj => ?_⟩
  · have e : ∀ x y : Int32, (x - y) + 100000 = (100000 + x) - y := by
      intro x y
      rw [Int32.add_comm 100000 x, Int32.sub_eq_add_neg, Int32.sub_eq_add_neg, Int32.add_assoc, Int32.add_assoc, Int32.add_comm (-y) 100000]
    exact e _ _
  · rw [ho5 j (by omega), ho4 j (by omega), hl3.1 j hj]
    exact e2 j hj
theorem c_will_l {n : List Nat} {S S0 T : St} {V L : Nat → Nat} {t c e : Nat} {p : Nat → AP} {x : Int32} {q : AP} {K : Int32 → St → Prop} (h : TI n S0 T V L t c p S) (hx : x = nI e) (he : e ≤ 50) (hq : VPa q) (k : ∀ y i a, RC i a (aAt t q (e - t)) → K y (sP S 57 i a)) : ∀ (m d : Nat) (i a : Nat → Int32), d + m = e → t ≤ d → RC i a (aAt t q (d - t)) → wl_X11_will_52 x K (m + 1) (nI d) (sP S 57 i a)
  | 0, d, i, a, hd, ht, hr => by
    rw [wl_X11_will_52]
    have e1 : d = e := by omega
    subst e1
    exact d_leT d d (Nat.le_refl _) (k _ _ _ hr) hx
  | m + 1, d, i, a, hd, ht, hr => by
    rw [wl_X11_will_52]
    refine d_leF e d (by omega) (c_passDay (S := sP S 57 i a) (p := aAt t q (d - t)) isPn57 (by rw [gI_sP, gA_sP]; exact hr) (hq.at _ (by omega)) rfl (by omega) fun i2 a2 hr2 => nm_r (nI_1 d) ?_) hx
    rw [sP_sP]
    refine c_will_l h hx he hq k m (d + 1) i2 a2 (by omega) (by omega) ?_
    have e1 : d + 1 - t = (d - t) + 1 := by omega
    rw [e1]
    show RC i2 a2 (aPass (t + (d - t)) (aAt t q (d - t)))
    have e2 : t + (d - t) = d := by omega
    rw [e2]
    exact hr2
theorem r_will_l {T : St} {t e j b : Nat} {x y : Int32} {q : AP} {K : Int32 → St → Prop} {r0 : Nat → Int32} (hb : b = 116 + 2 + 19 * j) (hb2 : b + 19 ≤ 232) (hx : x = nI j) (hy : y = nI e) (he : e ≤ 50) (hq : VPa q) (k : ∀ z r', RS r' b (aAt t q (e - t)) → Out r0 r' b → K z (sU T 116 r')) : ∀ (m d : Nat) (r : Nat → Int32), d + m = e → t ≤ d → RS r b (aAt t q (d - t)) → Out r0 r b → wl_X12_will_36 x y K (m + 1) (nI d) (sU T 116 r)
  | 0, d, r, hd, ht, hr, ho => by
    rw [wl_X12_will_36]
    have e1 : d = e := by omega
    subst e1
    exact d_leT d d (Nat.le_refl _) (k _ _ hr ho) hy
  | m + 1, d, r, hd, ht, hr, ho => by
    rw [wl_X12_will_36]
    refine d_leF e d (by omega) (ru_moves hb hb2 hx hr (hq.at _ (by omega)) rfl (by omega) fun r2 hs ho2 => nm_r (nI_1 d) ?_) hy
    refine r_will_l hb hb2 hx hy he hq k m (d + 1) r2 (by omega) (by omega) ?_ (ho.trans ho2)
    have e1 : d + 1 - t = (d - t) + 1 := by omega
    rw [e1]
    show RS r2 b (aPass (t + (d - t)) (aAt t q (d - t)))
    have e2 : t + (d - t) = d := by omega
    rw [e2]
    exact hs
theorem st_will : step_will Rel := by
  intro n S T a1 a2 hn h
  have hw := h.1.w
  have h0 := h.2.2.1
  obtain ⟨V, L, t, c, p, hC⟩ := h.2.2.2.1
  have hc3 : gI S (gN S 0 8) 3 = nI c := hC.1.2.2.1
  have ht4 : gI S (gN S 0 8) 4 = nI t := hC.1.2.2.2.1
  have hc6 : c ≤ 6 := hC.2.1.2.1
  have ht5 : t ≤ 50 := hC.2.1.1
  have hr1 : gA T 3 1 = nI c := hC.2.2.2.2.1.2.1
  have hr0 : gA T 3 0 = nI t := hC.2.2.2.2.1.1
  unfold wp_X11_will
  rcases rng a1 0 c (by omega) with b | ⟨j1, g1, h1, rfl⟩
  · exact c_pane_b hw hc3 hc6 b (d_0 ((by unfold wp_X12_will; exact r_pane_b hr1 hc6 b (d_0 (⟨rfl, h⟩)))))
  have hP1 := (h.1.2.1 _ j1 hw (by omega)).1
  have hQ1 := (h.1.2.1 _ j1 hw (by omega)).2
  have hrc1 := hC.1.2.2.2.2 j1 h1
  have hv1 := hC.2.1.2.2 j1 h1
  have hat1 : At T 0 j1 (0 + 2 + 19 * j1) := ⟨h0, rfl, by omega⟩
  have hrs1 := hC.2.2.2.2.1.2.2 j1 h1
  have hTI : TI n S T V L t c p S := ⟨rfl, h, hC⟩
  have hw57 := w_ne57 h.1
  have key : ∀ R : Int32 → St → Prop, OutR a2 t 50 → R (-1) T → wp_X12_will (nI j1) a2 T R := by
    intro R b k
    unfold wp_X12_will
    refine r_pane_t hr1 hc6 h1 (d_1 ⟨i_0 (by decide) (by decide), ?_⟩)
    rw [e_0, hr0]
    exact r_in_b (M := 49) b (d_0 k)
  refine c_pane_t hw hc3 hc6 h1 (d_1 (?_))
  rcases rng a2 0 50 (by omega) with b | ⟨j2, g2, h2, rfl⟩
  · exact c_day_b b (d_0 (key _ (by unfold OutR at b ⊢; omega) ⟨rfl, h⟩))
  refine c_day_t h2 (d_1 (nm_e ⟨hw, ?_⟩))
  rw [ht4]
  refine pk_le t j2 (fun hle => ?_) (fun hlt => ?_)
  · rw [nI_clamp (by omega)]
    refine ⟨vp_in_nI (by omega) (by decide), nm_e ⟨hP1, c_copy isPn57 hP1 hQ1 hrc1 fun i a hr => nm_e ⟨hw, nm_r ((hTI.trial hr).td.1) ⟨j2 - t + 1, ?_⟩⟩⟩⟩
    refine c_will_l (e := j2) (q := p j1) hTI rfl (by omega) hv1 (fun y i2 a2 hr2 => nm_e ⟨hw, ?_⟩) (j2 - t) t i a (by omega) (Nat.le_refl _) (by rw [Nat.sub_self]; exact hr)
    refine c_shown (S := sP S 57 i2 a2) hw isPn57 (V := V) (hTI.trial hr2).2.2.1.1 (by rw [gI_sP, gA_sP]; exact hr2) (hv1.at _ (by omega)) ?_
    unfold wp_X12_will
    refine r_pane_t hr1 hc6 h1 (d_1 ⟨i_0 (by decide) (by decide), ?_⟩)
    rw [e_0, hr0]
    refine r_in_t (M := 49) hle h2 (d_1 (r_lends0 h0 fun r' hl => ⟨i_0 (by decide) (by decide), ?_⟩))
    have hrw := hC.2.2.2.2.1.lent hC.2.1 hl
    rw [gA_sU, hl.1 0 (by decide), hr0]
    refine nm_e ⟨j2 - t + 1, r_will_l (e := j2) (q := p j1) (r0 := r') (b := 116 + 2 + 19 * j1) rfl (by omega) rfl rfl (by omega) hv1 (fun z r2 hs ho => ru_shown (b := 116 + 2 + 19 * j1) rfl (by omega) rfl hC.2.2.1 hs (hv1.at _ (by omega)) (nm_r (sI_sU (u' := 0) rfl) ⟨rfl, (h.trial hr2).lentU fun j hj => ?_⟩)) (j2 - t) t r' (by omega) (Nat.le_refl _) (by rw [Nat.sub_self]; exact hrw.2.2 j1 h1) (fun _ _ => rfl)⟩
    rw [ho j (by omega)]
    exact hl.1 j hj
  · exact key _ (Or.inl (by rw [nI_toInt (by omega)]; omega)) ⟨rfl, h⟩
theorem st_paneOf : step_paneOf Rel := by
  intro n S T a1 a2 hn h
  have hw := h.1.w
  have h0 := h.2.2.1
  obtain ⟨V, L, t, c, p, hC⟩ := h.2.2.2.1
  have hc3 : gI S (gN S 0 8) 3 = nI c := hC.1.2.2.1
  have ht4 : gI S (gN S 0 8) 4 = nI t := hC.1.2.2.2.1
  have hc6 : c ≤ 6 := hC.2.1.2.1
  have ht5 : t ≤ 50 := hC.2.1.1
  have hr1 : gA T 3 1 = nI c := hC.2.2.2.2.1.2.1
  have hr0 : gA T 3 0 = nI t := hC.2.2.2.2.1.1
  unfold wp_X11_paneOf
  rcases rng a1 0 c (by omega) with b | ⟨j1, g1, h1, rfl⟩
  · exact c_pane_b hw hc3 hc6 b (d_0 ((by unfold wp_X12_paneOf; exact r_pane_b hr1 hc6 b (d_0 (⟨rfl, h⟩)))))
  have hP1 := (h.1.2.1 _ j1 hw (by omega)).1
  have hQ1 := (h.1.2.1 _ j1 hw (by omega)).2
  have hrc1 := hC.1.2.2.2.2 j1 h1
  have hv1 := hC.2.1.2.2 j1 h1
  have hat1 : At T 0 j1 (0 + 2 + 19 * j1) := ⟨h0, rfl, by omega⟩
  have hrs1 := hC.2.2.2.2.1.2.2 j1 h1
  have hTI : TI n S T V L t c p S := ⟨rfl, h, hC⟩
  refine c_pane_t hw hc3 hc6 h1 (d_1 (?_))
  rw [nI_clamp (by omega)]
  refine nm_e ⟨hw, vp_in_nI (by omega) (by decide), nm_e ⟨hP1, ?_⟩⟩
  rcases rng a2 0 5 (by omega) with b | ⟨j2, g2, h2, rfl⟩
  · have hne : ∀ k, k < 5 → ¬ a2 = nI k := fun k hk e => by
      rw [e] at b
      unfold OutR at b
      rw [nI_toInt (by omega)] at b
      omega
    refine br_f (hne 0 (by decide)) (br_f (hne 1 (by decide)) (br_f (hne 2 (by decide)) (br_f (hne 3 (by decide)) (br_f (hne 4 (by decide)) ?_))))
    unfold wp_X12_paneOf
    exact r_pane_t hr1 hc6 h1 (d_1 (r_in_b (M := 4) b (d_0 ⟨rfl, h⟩)))
  · have key : ∀ R : Int32 → St → Prop, ((nI j2 = 0 → wp_X12_its (nI j1) (0 : Int32) T (fun r9 S8 => R r9 S8)) ∧ (¬ nI j2 = 0 → ((nI j2 = 1 → wp_X12_its (nI j1) (1 : Int32) T (fun r12 S11 => R r12 S11)) ∧ (¬ nI j2 = 1 → ((nI j2 = 2 → wp_X12_its (nI j1) (2 : Int32) T (fun r15 S14 => wp_X12_hung r15 S14 (fun r17 S16 => R r17 S16))) ∧ (¬ nI j2 = 2 → ((nI j2 = 3 → wp_X12_shown (nI j1) T (fun r20 S19 => R r20 S19)) ∧ (¬ nI j2 = 3 → (vp_in (0 : Int32) 232 ∧ (((50 : Int32) ≤ nI t → R (0 : Int32) T) ∧ (¬ (50 : Int32) ≤ nI t → wp_X12_its (nI j1) (0 : Int32) T (fun r24 S23 => (vp_in (0 : Int32) 232 ∧ wp_X12_movesBy r24 (gA S23 3 0) S23 (fun r27 S26 => ((r27 = 0 → R (0 : Int32) S26) ∧ (¬ r27 = 0 → R (1 : Int32) S26)))))))))))))))) → wp_X12_paneOf (nI j1) (nI j2) T R := by
      intro R k
      unfold wp_X12_paneOf
      refine r_pane_t hr1 hc6 h1 (d_1 (r_in_t (M := 4) (Nat.zero_le _) h2 (d_1 ?_)))
      rw [e_0, hr0]
      exact k
    refine pk_eq j2 0 (fun e => key _ (d_eqT j2 0 e (r_its hat1 rfl (k := 0) rfl (by decide) ⟨hrc1.1.trans hrs1.1.symm, h⟩))) (fun e0 => pk_eq j2 1 (fun e => key _ (d_eqF j2 0 e0 (d_eqT j2 1 e (r_its hat1 rfl (k := 1) rfl (by decide) ⟨hrc1.2.1.trans hrs1.2.1.symm, h⟩)))) (fun e1 => pk_eq j2 2 (fun e => ?_) (fun e2 => pk_eq j2 3 (fun e => ?_) (fun e3 => d_eqT j2 4 (by omega) ?_))))
    · refine c_placeTold hP1 hrc1 hv1 (key _ (d_eqF j2 0 e0 (d_eqF j2 1 e1 (d_eqT j2 2 e (r_its hat1 rfl (k := 2) rfl (by decide) ?_)))))
      rw [hrs1.2.2.1]
      exact r_hung hv1.2.2.2.1 ⟨rfl, h⟩
    · exact c_shown hw hP1 (V := V) hC.1.1 hrc1 hv1 (key _ (d_eqF j2 0 e0 (d_eqF j2 1 e1 (d_eqF j2 2 e2 (d_eqT j2 3 e (r_shown hat1 rfl hrs1 hv1 hC.2.2.1 ⟨rfl, h⟩))))))
    · rw [ht4]
      refine pk_le 50 t (fun g => key _ (d_eqF j2 0 e0 (d_eqF j2 1 e1 (d_eqF j2 2 e2 (d_eqF j2 3 e3 ⟨i_0 (by decide) (by decide), d_leT 50 t g ⟨rfl, h⟩⟩))))) (fun g => ?_)
      have kk : ∀ R : Int32 → St → Prop, (aMv (p j1).1 t → R 1 T) → (¬ aMv (p j1).1 t → R 0 T) → wp_X12_paneOf (nI j1) (nI j2) T R := fun R k1 k0 => key _ (d_eqF j2 0 e0 (d_eqF j2 1 e1 (d_eqF j2 2 e2 (d_eqF j2 3 e3 ⟨i_0 (by decide) (by decide), d_leF 50 t g (r_its hat1 rfl (k := 0) rfl (by decide) ⟨i_0 (by decide) (by decide), by rw [hr0, show gA T 3 (0 + 2 + 19 * j1 + 0) = nI (p j1).1 from hrs1.1]; exact r_movesBy hv1.1 (by omega) (fun hm => d_1 (k1 hm)) (fun hm => d_0 (k0 hm))⟩)⟩))))
      exact c_movesOn hP1 hrc1 hv1 rfl (by omega) (fun hm => d_1 (kk _ (fun _ => ⟨rfl, h⟩) (fun z => absurd hm z))) (fun hm => d_0 (kk _ (fun z => absurd z hm) (fun _ => ⟨rfl, h⟩)))
