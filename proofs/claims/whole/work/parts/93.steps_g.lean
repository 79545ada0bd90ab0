/-! STEPS: rows -/
theorem up2_comm {α : Type} {f : Nat → Nat → α} {c k c' k' : Nat} {v w : α} (h : c ≠ c' ∨ k ≠ k') : up2 (up2 f c k v) c' k' w = up2 (up2 f c' k' w) c k v := by
  funext d e
  unfold up2 up1
  by_cases h1 : d = c' <;> by_cases h2 : d = c
  · subst h1
    subst h2
    have hk : k ≠ k' := by
      rcases h with h | h
      · exact absurd rfl h
      · exact h
    by_cases h3 : e = k' <;> by_cases h4 : e = k
    · exact absurd (h4.symm.trans h3) hk
    · simp [h3, Ne.symm hk]
    · simp [h4, hk]
    · simp [h3, h4]
  · subst h1
    simp [h2, Ne.symm h2]
  · subst h2
    simp [h1, Ne.symm h1]
  · simp [h1, h2]
theorem up2_upr {α : Type} {f : Nat → Nat → α} {c c' k : Nat} {g : Nat → α} {v : α} (h : c ≠ c') : up2 (upr f c' g) c k v = upr (up2 f c k v) c' g := by
  funext d
  unfold up2 upr
  by_cases h1 : d = c
  · subst h1
    rw [if_pos rfl, if_neg h, if_neg h]
    exact (if_pos rfl).symm
  · rw [if_neg h1]
    by_cases h2 : d = c'
    · rw [if_pos h2, if_pos h2]
    · rw [if_neg h2, if_neg h2]
      exact (if_neg h1).symm
theorem sA_sUn {T : St} {u c k : Nat} {r : Nat → Int32} {v : Int32} (h : c ≠ 3) : sA (sU T u r) c k v = sU (sA T c k v) u r := by
  refine Prod.ext rfl (Prod.ext ?_ rfl)
  exact up2_upr h
theorem sI_sUn {T : St} {u k : Nat} {r : Nat → Int32} {v : Int32} (h : k ≠ 3) : sI (sU T u r) 0 k v = sU (sI T 0 k v) u r := by
  refine Prod.ext ?_ rfl
  exact up2_comm (Or.inr (Ne.symm h))
/-- the rows that must be, and how many -/
def tM (T : St) (k : Nat) (m : Nat → Int32) : St := sI (sR T 10 m) 0 22 (nI k)
theorem sA_tM {T : St} {k i : Nat} {m : Nat → Int32} {v : Int32} : sA (tM T k m) 10 i v = tM T k (up1 m i v) := by
  refine Prod.ext rfl (Prod.ext ?_ rfl)
  funext d
  show (if d = 10 then up1 (if 10 = 10 then m else T.2.1 10) i v else if d = 10 then m else T.2.1 d) = if d = 10 then up1 m i v else T.2.1 d
  rw [if_pos rfl]
  by_cases h : d = 10
  · rw [if_pos h, if_pos h]
  · rw [if_neg h, if_neg h, if_neg h]
theorem sI_tM {T : St} {k k' : Nat} {m : Nat → Int32} {v : Int32} (h : v = nI k') : sI (tM T k m) 0 22 v = tM T k' m := by
  subst h
  exact Prod.ext up2_up2 rfl
theorem gI_tM {T : St} {k : Nat} {m : Nat → Int32} : gI (tM T k m) 0 22 = nI k := gI_sIs
theorem gI_tMn {T : St} {k x : Nat} {m : Nat → Int32} (h : x ≠ 22) : gI (tM T k m) 0 x = gI T 0 x := gI_sIk h
theorem gA_tM {T : St} {k : Nat} {m : Nat → Int32} : gA (tM T k m) 10 = m := gA_sR _ _ _
theorem gA_tMn {T : St} {k c : Nat} {m : Nat → Int32} (h : c ≠ 10) : gA (tM T k m) c = gA T c := gA_sRn h
theorem OT.tM {T : St} {k : Nat} {m : Nat → Int32} : OT T (tM T k m) := ⟨gI_tMn (by decide), gI_tMn (by decide), gI_tMn (by decide), gI_tMn (by decide), gA_tMn (by decide), gA_tMn (by decide), fun c hc => gA_tMn (by omega), rfl⟩
theorem OT.trans {T T' T'' : St} (h : OT T T') (h' : OT T' T'') : OT T T'' := by
  obtain ⟨a1, a2, a3, a4, a5, a6, a7, a8⟩ := h
  obtain ⟨b1, b2, b3, b4, b5, b6, b7, b8⟩ := h'
  exact ⟨b1.trans a1, b2.trans a2, b3.trans a3, b4.trans a4, b5.trans a5, b6.trans a6, fun c hc => (b7 c hc).trans (a7 c hc), b8.trans a8⟩
theorem Rel.must {n : List Nat} {S T : St} {k : Nat} {m r : Nat → Int32} (h : Rel n S T) (er : ∀ j, j < 116 → r j = gA T 3 j) : Rel n S (sU (tM T k m) 0 r) := h.lent (OT.tM.trans OT.sU) gI_sU ((gA_sUn (by decide)).trans (gA_tMn (by decide))) ((gA_sUn (by decide)).trans (gA_tMn (by decide))) ((gI_sUn (by decide)).trans (gI_tMn (by decide))) (fun j hj => by rw [gA_sU]; exact er j hj)
def aPart (V : Nat → Nat) (q : AP) (d w : Nat) : Int32 := if w = 0 then nI d else if w = 1 then nI (aShown V q) else eI (aLast q)
def aMust (V : Nat → Nat) (t : Nat) (q : AP) (x : Nat) : Int32 := aPart V (aAt t q (x / 3)) (t + x / 3) (x % 3)
theorem aMust_at {V : Nat → Nat} {t i w : Nat} {q : AP} (hw : w < 3) : aMust V t q (3 * i + w) = aPart V (aAt t q i) (t + i) w := by
  unfold aMust
  have e1 : (3 * i + w) / 3 = i := by omega
  have e2 : (3 * i + w) % 3 = w := by omega
  rw [e1, e2]
theorem aMust_lt {V : Nat → Nat} {t i : Nat} {q : AP} {g g' : Nat → Int32} (h : ∀ x, x < 3 * i → g x = aMust V t q x) (h1 : ∀ x, x < 3 * i → g' x = g x) (h2 : ∀ w, w < 3 → g' (3 * i + w) = aPart V (aAt t q i) (t + i) w) : ∀ x, x < 3 * (i + 1) → g' x = aMust V t q x := by
  intro x hx
  by_cases hl : x < 3 * i
  · rw [h1 x hl]
    exact h x hl
  · have e : x = 3 * i + (x - 3 * i) := by omega
    rw [e, aMust_at (by omega)]
    exact h2 _ (by omega)
theorem r_find_l {T : St} {t n k j b : Nat} {x y : Int32} {q : AP} {V : Nat → Nat} {K : Int32 → St → Prop} {r0 : Nat → Int32} (hb : b = 116 + 2 + 19 * j) (hb2 : b + 19 ≤ 232) (hx : x = nI j) (hy : y = nI n) (hn : n ≤ 20) (ht5 : t ≤ 50) (hk : k = min n (50 - t)) (hV : NR (gA T 1) V 200 99) (hq : VPa q) (kk : ∀ z m r', (∀ x, x < 3 * k → m x = aMust V t q x) → Out r0 r' b → K z (sU (tM T k m) 116 r')) : ∀ (c i : Nat) (m r : Nat → Int32), i + c = k → (∀ x, x < 3 * i → m x = aMust V t q x) → RS r b (aAt t q i) → Out r0 r b → wl_X12_findRows_16 x y K (c + 1) (nI (t + i)) (sU (tM T i m) 116 r)
  | 0, i, m, r, hi, hm, hr, ho => by
    have e : i = k := by omega
    subst e
    rw [wl_X12_findRows_16, gI_sUn (by decide), gI_tM, hy]
    by_cases h : n ≤ i
    · exact d_leT n i h (kk _ _ _ hm ho)
    · exact d_leF n i (by omega) (d_leT 50 (t + i) (by omega) (kk _ _ _ hm ho))
  | c + 1, i, m, r, hi, hm, hr, ho => by
    have hqi := hq.at (d := t) i (by omega)
    rw [wl_X12_findRows_16, gI_sUn (by decide), gI_tM, hy]
    have e3 : (3 : Int32) * nI i = nI (3 * i) := pk_mul 3 i
    rw [e3]
    refine d_leF n i (by omega) (d_leF 50 (t + i) (by omega) ⟨vp_in_nI (by omega) (by decide), ?_⟩)
    rw [nI_clamp (by omega)]
    refine nm_e ?_
    rw [sA_sUn (by decide), sA_tM]
    refine ru_shown hb hb2 hx (by rw [gA_tMn (by decide)]; exact hV) hr hqi ?_
    rw [gI_sUn (by decide), gI_tM, e3]
    have e31 : nI (3 * i) + (1 : Int32) = nI (3 * i + 1) := nI_add _ 1
    have e32 : nI (3 * i) + (2 : Int32) = nI (3 * i + 2) := nI_add _ 2
    rw [e31, nI_clamp (by omega)]
    refine ⟨vp_in_nI (by omega) (by decide), nm_e ?_⟩
    rw [sA_sUn (by decide), sA_tM]
    refine ru_last hb hb2 hx hr hqi ?_
    rw [gI_sUn (by decide), gI_tM, e3, e32, nI_clamp (by omega)]
    refine ⟨vp_in_nI (by omega) (by decide), nm_e ?_⟩
    rw [sA_sUn (by decide), sA_tM, gI_sUn (by decide), gI_tM]
    refine nm_e ?_
    rw [sI_sUn (by decide), sI_tM (nI_1 i)]
    refine ru_moves hb hb2 hx hr hqi rfl (by omega) fun r' hr' ho' => nm_r (nI_1 (t + i)) ?_
    rw [Nat.add_assoc, ← hy]
    refine r_find_l hb hb2 hx hy hn ht5 hk hV hq kk c (i + 1) _ r' (by omega) (aMust_lt hm (fun x hx => ?_) (fun w hw => ?_)) hr' (ho.trans ho')
    · rw [u1_n (by omega), u1_n (by omega), u1_n (by omega)]
    · unfold aPart
      by_cases h0 : w = 0
      · subst h0
        rw [if_pos rfl, u1_n (by omega), u1_n (by omega)]
        exact u1_s (f := m) (k := 3 * i)
      · rw [if_neg h0]
        by_cases h1 : w = 1
        · subst h1
          rw [if_pos rfl, u1_n (by omega), u1_s]
        · rw [if_neg h1]
          have h2 : w = 2 := by omega
          subst h2
          rw [u1_s]
theorem r_find {T : St} {V : Nat → Nat} {t c n j : Nat} {p : Nat → AP} {x y : Int32} {Q : St → Prop} (h0 : gI T 0 3 = nI 0) (hx : x = nI j) (hj : j < c) (hy : y = nI n) (hn : n ≤ 20) (hvw : VW t c p) (hV : NR (gA T 1) V 200 99) (hrw : RW (gA T 3) 0 t c p) (k : ∀ m r', (∀ x, x < 3 * min n (50 - t) → m x = aMust V t (p j) x) → (∀ x, x < 116 → r' x = gA T 3 x) → Q (sU (tM T (min n (50 - t)) m) 0 r')) : wp_X12_findRows x y T Q := by
  have hc6 := hvw.2.1
  unfold wp_X12_findRows
  refine r_lends0 h0 fun r1 hl => nm_e ⟨i_0 (by decide) (by decide), ?_⟩
  have hr1 := hrw.lent hvw hl
  have e0 : sI (sU T 116 r1) 0 22 (0 : Int32) = sU (tM T 0 (gA T 10)) 116 r1 := by
    rw [sI_sUn (by decide)]
    unfold tM
    rw [sR_self]
    rfl
  rw [e0, e_0, gA_sU, hl.1 0 (by decide), hrw.1]
  refine nm_e ⟨min n (50 - t) + 1, r_find_l (T := T) (r0 := r1) (b := 116 + 2 + 19 * j) rfl (by omega) hx hy hn hvw.1 rfl hV (hvw.2.2 j hj) (fun z m r' hm ho => nm_r (sI_sU (u' := 0) rfl) (k m r' hm fun x hx => ?_)) (min n (50 - t)) 0 _ r1 (by omega) (fun x hx => absurd hx (by omega)) (hr1.2.2 j hj) (fun _ _ => rfl)⟩
  rw [ho x (by omega)]
  exact hl.1 x hx
theorem r_prove_l {T : St} {k : Nat} {K : Int32 → St → Prop} (h : gI T 0 21 = nI k) (hk : k ≤ 20) (kk : ∀ z g, (∀ x, x < 3 * k → g x = gA T 10 x) → K z (sR T 9 g)) : ∀ (m i : Nat) (g : Nat → Int32), i + m = 3 * k → (∀ x, x < i → g x = gA T 10 x) → wl_X12_prove_33 K (m + 1) (nI i) (sR T 9 g)
  | 0, i, g, hi, hg => by
    have e3 : (3 : Int32) * gI (sR T 9 g) 0 21 = nI (3 * k) := by
      show (3 : Int32) * gI T 0 21 = _
      rw [h]
      exact pk_mul 3 k
    rw [wl_X12_prove_33, e3]
    exact d_leT (3 * k) i (by omega) (kk _ _ (by rw [← hi]; exact hg))
  | m + 1, i, g, hi, hg => by
    have e3 : (3 : Int32) * gI (sR T 9 g) 0 21 = nI (3 * k) := by
      show (3 : Int32) * gI T 0 21 = _
      rw [h]
      exact pk_mul 3 k
    rw [wl_X12_prove_33, e3, nI_clamp (by omega)]
    refine d_leF (3 * k) i (by omega) ⟨vp_in_nI (by omega) (by decide), vp_in_nI (by omega) (by decide), nm_e (nm_r (nI_1 i) ?_)⟩
    rw [sA_R, sR_sR, gA_sR, gA_sRn (by decide)]
    refine r_prove_l h hk kk m (i + 1) _ (by omega) fun x hx => ?_
    by_cases e : x = i
    · subst e
      exact u1_s
    · rw [u1_n e]
      exact hg x (by omega)
/-! the class's rows -/
theorem sA_sPn {S : St} {P c k : Nat} {i a : Nat → Int32} {v : Int32} (h : c ≠ P + 1) : sA (sP S P i a) c k v = sP (sA S c k v) P i a := by
  refine Prod.ext rfl (Prod.ext ?_ rfl)
  exact up2_upr (f := S.2.1) (g := a) h
theorem sI_sPn {S : St} {P c k : Nat} {i a : Nat → Int32} {v : Int32} (h : c ≠ P) : sI (sP S P i a) c k v = sP (sI S c k v) P i a := by
  refine Prod.ext ?_ rfl
  exact up2_upr (f := S.1) (g := i) h
theorem sR_sPn {S : St} {P c : Nat} {i a g : Nat → Int32} (h : c ≠ P + 1) : sR (sP S P i a) c g = sP (sR S c g) P i a := by
  refine Prod.ext rfl (Prod.ext ?_ rfl)
  funext d
  show (if d = c then g else if d = P + 1 then a else S.2.1 d) = if d = P + 1 then a else if d = c then g else S.2.1 d
  by_cases h1 : d = c
  · rw [if_pos h1, if_neg (by omega), if_pos h1]
  · rw [if_neg h1, if_neg h1]
/-- the class's rows, and how many -/
def sK (S : St) (k : Nat) (g : Nat → Int32) : St := sR (sI S 0 11 (nI k)) 3 g
theorem gI_sK {S : St} {k : Nat} {g : Nat → Int32} : gI (sK S k g) 0 11 = nI k := gI_sIs (S := S) (c := 0) (k := 11) (v := nI k)
theorem gI_sKn {S : St} {k c : Nat} {g : Nat → Int32} (h : c ≠ 0) : gI (sK S k g) c = gI S c := gI_sIn h
theorem gI_sK0 {S : St} {k x : Nat} {g : Nat → Int32} (h : x ≠ 11) : gI (sK S k g) 0 x = gI S 0 x := gI_sIk (S := S) (c := 0) (k := 11) (v := nI k) h
theorem gA_sK {S : St} {k : Nat} {g : Nat → Int32} : gA (sK S k g) 3 = g := gA_sR _ _ _
theorem gA_sKn {S : St} {k c : Nat} {g : Nat → Int32} (h : c ≠ 3) : gA (sK S k g) c = gA S c := gA_sRn h
theorem sA_sK {S : St} {k i : Nat} {g : Nat → Int32} {v : Int32} : sA (sK S k g) 3 i v = sK S k (up1 g i v) := by
  unfold sK
  rw [sA_R, gA_sR, sR_sR]
theorem sK_self {S : St} {k : Nat} (h : gI S 0 11 = nI k) : sK S k (gA S 3) = S := by
  have e : sI S 0 11 (nI k) = S := Prod.ext (up2_self h) rfl
  unfold sK
  rw [e]
  exact sR_self
theorem Rel.rows {n : List Nat} {S T : St} {k : Nat} {g g2 : Nat → Int32} (h : Rel n S T) (hk : k ≤ 20) (hg : ∀ x, x < 3 * k → g x = g2 x) : Rel n (sK S k g) (sR (sI T 0 21 (nI k)) 9 g2) := by
  obtain ⟨hI, hF, h0, ⟨V, L, t, c, p, ⟨h1, h2, h3, h4, h5⟩, h6, h7, h8, h9, h10⟩, hK, ⟨o1, o2, o3, o4, o5⟩⟩ := h
  have hcc := hI.c
  have e0 : gN (sK S k g) 0 8 = gN S 0 8 := rfl
  have gI2 : ∀ x, x ≠ 21 → gI (sR (sI T 0 21 (nI k)) 9 g2) 0 x = gI T 0 x := fun x hx => gI_sIk (S := T) (c := 0) (k := 21) (v := nI k) hx
  have gA2 : ∀ c, c ≠ 9 → gA (sR (sI T 0 21 (nI k)) 9 g2) c = gA T c := fun c hc => gA_sRn hc
  refine ⟨hI, fun P hP => ?_, (gI2 3 (by decide)).trans h0, ⟨V, L, t, c, p, ⟨?_, ?_, ?_, ?_, fun j hj => ?_⟩, h6, ?_, ?_, ?_, ?_⟩, ⟨?_, ?_⟩, ?_, ⟨k, hk, gI_sK, gI_sIs (S := T) (c := 0) (k := 21) (v := nI k), ?_⟩, ?_, ?_, ?_⟩
  · rw [gI_sKn (by have := hP.1; omega)]
    exact hF P hP
  · rw [e0, gA_sKn (by omega)]
    exact h1
  · rw [e0, gA_sKn (by omega)]
    exact h2
  · rw [e0, gI_sKn (by omega)]
    exact h3
  · rw [e0, gI_sKn (by omega)]
    exact h4
  · have g := (hI.pn (j := j) (by have := h6.2.1; omega)).1
    rw [e0, gI_sKn (by show gN S (gN S 0 8 + 3) j ≠ 0; omega), gA_sKn (by show gN S (gN S 0 8 + 3) j + 1 ≠ 3; omega)]
    exact h5 j hj
  · rw [gA2 1 (by decide)]
    exact h7
  · rw [gA2 2 (by decide)]
    exact h8
  · rw [gA2 3 (by decide)]
    exact h9
  · rw [e0, gI_sKn (by omega), gI2 4 (by decide)]
    exact h10
  · rw [gI_sK0 (by decide), gI2 35 (by decide)]
    exact hK.1
  · rw [gI2 35 (by decide), gA2 18 (by decide), gI_sKn (by decide)]
    rcases hK.2 with h | ⟨h, V, L, t, c, p, ⟨k1, k2, k3, k4, k5⟩, k6, k7⟩
    · exact Or.inl h
    · refine Or.inr ⟨h, V, L, t, c, p, ⟨?_, ?_, ?_, ?_, fun j hj => ?_⟩, k6, k7⟩
      · rw [gA_sKn (by decide)]
        exact k1
      · rw [gA_sKn (by decide)]
        exact k2
      · rw [gI_sKn (by decide)]
        exact k3
      · rw [gI_sKn (by decide)]
        exact k4
      · have g := (hI.2.1 9 j isW9 (by have := k6.2.1; omega)).1.1
        rw [gI_sKn (by show gN S (9 + 3) j ≠ 0; omega), gA_sKn (by show gN S (9 + 3) j + 1 ≠ 3; omega)]
        exact k5 j hj
  · unfold RTape
    rw [gI_sKn (by decide), gA_sKn (by decide), gI2 6 (by decide), gA2 4 (by decide)]
    exact o1
  · rw [gA_sK, gA_sR]
    exact hg
  · have ho : RO n S T := ⟨o1, o2, o3, o4, o5⟩
    unfold RSheets
    rw [gA2 11 (by decide), gA2 12 (by decide)]
    refine ⟨fun s hs => ?_, o3.2⟩
    rcases o3.1 s hs with h1 | ⟨h1, h2, so, k2, h3, h4, h5, h6⟩
    · exact Or.inl h1
    · have hs2 : ∀ c, 59 ≤ c → gI (sK S k g) c = gI S c ∧ gN (sK S k g) c = gN S c := fun c hc => ⟨gI_sKn (by omega), rfl⟩
      refine Or.inr ⟨h1, h2.of hs2, so, k2, h3.of h2 hs2, h4, h5, fun j hj => ?_⟩
      have g1 := h2.2.1.1
      rw [gA_sKn (by show gN S (gN S 4 s) 1 ≠ 3; omega)]
      exact h6 j hj
  · unfold RShelves
    rw [gA2 14 (by decide), gA2 15 (by decide), gA2 16 (by decide), gA_sKn (by decide)]
    intro s hs
    have hs2 : ∀ c, 59 ≤ c → gI (sK S k g) c = gI S c ∧ gN (sK S k g) c = gN S c := fun c hc => ⟨gI_sKn (by omega), rfl⟩
    rcases o4 s hs with h1 | h1 | ⟨h1, h2, h3, h4, so, k2, h5, h6⟩
    · exact Or.inl h1
    · exact Or.inr (Or.inl h1)
    · exact Or.inr (Or.inr ⟨h1, h2, h3, h4.of hs2, so, k2, h5.of h4 hs2, h6⟩)
  · unfold RTrace
    rw [gI_sKn (by decide), gA_sKn (by decide), gI2 33 (by decide), gA2 17 (by decide)]
    exact o5
theorem c_part {S : St} {V : Nat → Nat} {q : AP} {d w : Nat} {x y : Int32} {Q : Int32 → St → Prop} (hw : isW (gN S 0 8)) (hV : NR (gA S (gN S 0 8 + 1)) V 200 99) (hr : RC (gI S 57) (gA S 58) q) (hq : VPa q) (hx : x = nI d) (hy : y = nI w) (hw3 : w < 3) (k : Q (aPart V q d w) S) : wp_X11_rowPart x y S Q := by
  subst hx hy
  unfold wp_X11_rowPart
  unfold aPart at k
  refine pk_eq w 0 (fun e => ?_) (fun e => pk_eq w 1 (fun e' => nm_e ⟨hw, ?_⟩) (fun e' => ?_))
  · rw [if_pos e] at k
    exact k
  · rw [if_neg e, if_pos e'] at k
    exact c_shown hw isPn57 hV hr hq k
  · rw [if_neg e, if_neg e'] at k
    exact c_last isPn57 hr hq k
/-- what of S stays in the loops over rows: its world, its reading -/
def WK (S : St) (V : Nat → Nat) (t : Nat) : Prop := IC S ∧ NR (gA S (gN S 0 8 + 1)) V 200 99 ∧ gI S (gN S 0 8) 4 = nI t
theorem wk_facts {S : St} {V : Nat → Nat} {t k : Nat} {g i a : Nat → Int32} (h : WK S V t) : gN (sP (sK S k g) 57 i a) 0 8 = gN S 0 8 ∧ isW (gN S 0 8) ∧ NR (gA (sP (sK S k g) 57 i a) (gN S 0 8 + 1)) V 200 99 ∧ gI (sP (sK S k g) 57 i a) (gN S 0 8) 4 = nI t ∧ gI (sP (sK S k g) 57 i a) 0 11 = nI k ∧ gA (sP (sK S k g) 57 i a) 3 = g := by
  obtain ⟨hI, hV, ht⟩ := h
  have hcc := hI.c
  refine ⟨rfl, hI.w, ?_, ?_, ?_, ?_⟩
  · rw [gA_sPn (by omega), gA_sKn (by omega)]
    exact hV
  · rw [gI_sPn (by omega), gI_sKn (by omega)]
    exact ht
  · rw [gI_sPn (by decide)]
    exact gI_sK
  · rw [gA_sPn (by decide)]
    exact gA_sK
theorem c_prove3 {S : St} {V : Nat → Nat} {t k c d : Nat} {q : AP} {x y : Int32} {i a g0 : Nat → Int32} {K : Int32 → St → Prop} (h : WK S V t) (hr : RC i a q) (hq : VPa q) (hx : x = nI c) (hc : c < 20) (hy : y = nI d) (kk : ∀ z g, (∀ x, x < 3 * c → g x = g0 x) → (∀ w, w < 3 → g (3 * c + w) = aPart V q d w) → K z (sP (sK S k g) 57 i a)) : ∀ (m w : Nat) (g : Nat → Int32), w + m = 3 → (∀ x, x < 3 * c → g x = g0 x) → (∀ w', w' < w → g (3 * c + w') = aPart V q d w') → wl_X11_prove_75 x y K (m + 1) (nI w) (sP (sK S k g) 57 i a)
  | 0, w, g, hw, h1, h2 => by
    rw [wl_X11_prove_75]
    exact d_leT 3 w (by omega) (kk _ _ h1 (fun w' hw' => h2 w' (by omega)))
  | m + 1, w, g, hw, h1, h2 => by
    obtain ⟨f1, f2, f3, f4, f5, f6⟩ := wk_facts (k := k) (g := g) (i := i) (a := a) h
    rw [wl_X11_prove_75]
    refine d_leF 3 w (by omega) ?_
    unfold wp_X11_rowSlot
    have e : x * (3 : Int32) + nI w = nI (3 * c + w) := by
      rw [hx]
      show nI c * nI 3 + nI w = _
      rw [pk_mul, nI_add, Nat.mul_comm]
    refine c_part (V := V) (q := q) (d := d) (w := w) (by rw [f1]; exact f2) (by rw [f1]; exact f3) (by rw [gI_sP, show gA (sP (sK S k g) 57 i a) 58 = a from gA_sP]; exact hr) hq hy rfl (by omega) ?_
    rw [e, nI_clamp (by omega)]
    refine ⟨vp_in_nI (by omega) (by decide), nm_e (nm_r (nI_1 w) ?_)⟩
    rw [sA_sPn (by decide), sA_sK]
    refine c_prove3 h hr hq hx hc hy kk m (w + 1) _ (by omega) (fun x hx => ?_) (fun w' hw' => ?_)
    · rw [u1_n (by omega)]
      exact h1 x hx
    · by_cases e : w' = w
      · subst e
        exact u1_s
      · rw [u1_n (by omega)]
        exact h2 w' (by omega)
theorem c_prove_l {S : St} {V : Nat → Nat} {t k : Nat} {q : AP} {K : Int32 → St → Prop} (h : WK S V t) (hq : VPa q) (hk : k ≤ 20) (hk2 : t + k ≤ 50) (kk : ∀ z g i a q', (∀ x, x < 3 * k → g x = aMust V t q x) → RC i a q' → K z (sP (sK S k g) 57 i a)) : ∀ (m c : Nat) (g i a : Nat → Int32), c + m = k → (∀ x, x < 3 * c → g x = aMust V t q x) → RC i a (aAt t q c) → wl_X11_prove_53 K (m + 1) (nI c) (sP (sK S k g) 57 i a)
  | 0, c, g, i, a, hc, hg, hr => by
    obtain ⟨f1, f2, f3, f4, f5, f6⟩ := wk_facts (k := k) (g := g) (i := i) (a := a) h
    rw [wl_X11_prove_53, f5]
    exact d_leT k c (by omega) (kk _ _ _ _ _ (by rw [← hc]; exact hg) hr)
  | m + 1, c, g, i, a, hc, hg, hr => by
    obtain ⟨f1, f2, f3, f4, f5, f6⟩ := wk_facts (k := k) (g := g) (i := i) (a := a) h
    have hqc := hq.at (d := t) c (by omega)
    rw [wl_X11_prove_53, f5]
    refine d_leF k c (by omega) (nm_r f1 ⟨f2, nm_r (e' := nI (t + c)) (by rw [f4]; exact nI_add t c) ⟨3 + 1, c_prove3 (g0 := g) (q := aAt t q c) (d := t + c) (c := c) h hr hqc rfl (by omega) rfl (fun z g' h1 h2 => ?_) 3 0 g rfl (fun _ _ => rfl) (fun w' hw' => absurd hw' (by omega))⟩⟩)
    refine c_passDay (S := sP (sK S k g') 57 i a) isPn57 (p := aAt t q c) (by rw [gI_sP, gA_sP]; exact hr) hqc rfl (by omega) fun i2 a2 hr2 => nm_r (nI_1 c) ?_
    rw [sP_sP]
    exact c_prove_l h hq hk hk2 kk m (c + 1) g' i2 a2 (by omega) (aMust_lt hg h1 h2) hr2
theorem Cur.wk {S T : St} {V L : Nat → Nat} {t c : Nat} {p : Nat → AP} (h : Cur S T V L t c p) (hI : IC S) : WK S V t := ⟨hI, h.1.1, h.1.2.2.2.1⟩
theorem st_prove : step_prove Rel := by
  intro n S T a1 a2 hn h
  have hw := h.1.w
  have h0 := h.2.2.1
  obtain ⟨V, L, t, c, p, hC⟩ := h.2.2.2.1
  have hc3 : gI S (gN S 0 8) 3 = nI c := hC.1.2.2.1
  have ht4 : gI S (gN S 0 8) 4 = nI t := hC.1.2.2.2.1
  have hc6 : c ≤ 6 := hC.2.1.2.1
  have ht5 : t ≤ 50 := hC.2.1.1
  have hr1 : gA T 3 1 = nI c := hC.2.2.2.2.1.2.1
  have hr0 : gA T 3 0 = nI t := hC.2.2.2.2.1.1
  unfold wp_X11_prove
  rcases rng a1 0 c (by omega) with b | ⟨j1, g1, h1, rfl⟩
  · exact c_pane_b hw hc3 hc6 b (d_0 ((by unfold wp_X12_prove; exact r_pane_b hr1 hc6 b (d_0 (⟨rfl, h⟩)))))
  rcases rng a2 1 21 (by omega) with b | ⟨j2, g2, h2, rfl⟩
  · exact c_pane_t hw hc3 hc6 h1 (d_1 (c_long_b b (d_0 ((by unfold wp_X12_prove; exact r_pane_t hr1 hc6 h1 (d_1 (r_long_b b (d_0 (⟨rfl, h⟩)))))))))
  have hP1 := (h.1.2.1 _ j1 hw (by omega)).1
  have hQ1 := (h.1.2.1 _ j1 hw (by omega)).2
  have hrc1 := hC.1.2.2.2.2 j1 h1
  have hv1 := hC.2.1.2.2 j1 h1
  have hat1 : At T 0 j1 (0 + 2 + 19 * j1) := ⟨h0, rfl, by omega⟩
  have hrs1 := hC.2.2.2.2.1.2.2 j1 h1
  refine c_pane_t hw hc3 hc6 h1 (d_1 (c_long_t g2 h2 (d_1 (?_))))
  rw [nI_clamp (by omega)]
  refine nm_e ⟨hw, vp_in_nI (by omega) (by decide), nm_e ⟨hP1, c_copy isPn57 hP1 hQ1 hrc1 fun i a hr => nm_e ⟨hw, nm_e ?_⟩⟩⟩
  have hcc := h.1.c
  have e1 : sI (sP S 57 i a) 0 11 (if ((50 : Int32) - (gI (sP S 57 i a) (gN S 0 8) 4)) < nI j2 then ((50 : Int32) - (gI (sP S 57 i a) (gN S 0 8) 4)) else nI j2) = sP (sK S (min j2 (50 - t)) (gA S 3)) 57 i a := by
    rw [sI_sPn (by decide), gI_sPn (by omega), ht4, show (50 : Int32) - nI t = nI (50 - t) from pk_sub (a := 50) ht5]
    unfold sK
    rw [show gA S 3 = gA (sI S 0 11 (nI (min j2 (50 - t)))) 3 from rfl, sR_self]
    by_cases hlt : 50 - t < j2
    · rw [if_pos (nI_lt hlt (by omega)), show min j2 (50 - t) = 50 - t by omega]
    · rw [if_neg (nI_nlt (by omega) (by omega)), show min j2 (50 - t) = j2 by omega]
  rw [show gN (sP S 57 i a) 0 8 = gN S 0 8 from rfl, e1]
  refine ⟨min j2 (50 - t) + 1, c_prove_l (hC.wk h.1) hv1 (by omega) (by omega) (fun z g i2 a2 q2 hg hr2 => ?_) (min j2 (50 - t)) 0 _ i a (by omega) (fun x hx => absurd hx (by omega)) hr⟩
  rw [show gI (sP (sK S (min j2 (50 - t)) g) 57 i2 a2) 0 11 = nI (min j2 (50 - t)) from (wk_facts (hC.wk h.1)).2.2.2.2.1]
  unfold wp_X12_prove
  refine r_pane_t hr1 hc6 h1 (d_1 (r_long_t g2 h2 (d_1 (?_))))
  refine r_find (n := j2) h0 rfl h1 rfl (by omega) hC.2.1 hC.2.2.1 hC.2.2.2.2.1 fun m r' hm hr' => nm_e ?_
  have hR := h.must (k := min j2 (50 - t)) (m := m) hr'
  rw [show gI (sU (tM T (min j2 (50 - t)) m) 0 r') 0 22 = nI (min j2 (50 - t)) from (gI_sUn (by decide)).trans gI_tM]
  have := r_prove_l (T := sI (sU (tM T (min j2 (50 - t)) m) 0 r') 0 21 (nI (min j2 (50 - t)))) (k := min j2 (50 - t)) (K := fun _ S15 => nI (min j2 (50 - t)) = gI S15 0 21 ∧ Rel n (sP (sK S (min j2 (50 - t)) g) 57 i2 a2) S15) gI_sIs (by omega) (fun z g2 hg2 => ⟨(gI_sIs (S := sU (tM T (min j2 (50 - t)) m) 0 r') (c := 0) (k := 21) (v := nI (min j2 (50 - t)))).symm, (hR.rows (g := g) (g2 := g2) (by omega) fun x hx => ?_).trial hr2⟩) (3 * min j2 (50 - t)) 0 (gA (sU (tM T (min j2 (50 - t)) m) 0 r') 9) (by omega) (fun x hx => absurd hx (by omega))
  · refine ⟨3 * min j2 (50 - t) + 1, ?_⟩
    rw [show gA (sU (tM T (min j2 (50 - t)) m) 0 r') 9 = gA (sI (sU (tM T (min j2 (50 - t)) m) 0 r') 0 21 (nI (min j2 (50 - t)))) 9 from rfl, sR_self] at this
    exact this
  · rw [hg x hx, hg2 x hx]
    show _ = gA (sU (tM T (min j2 (50 - t)) m) 0 r') 10 x
    rw [gA_sUn (by decide), gA_tM]
    exact (hm x hx).symm
