/-! STEPS: keep, again, feed -/
theorem isW.sep {w w' : Nat} (h : isW w) (h' : isW w') (hne : w' ≠ w) : w' + 3 < w ∨ w + 3 < w' := by
  rcases h with rfl | rfl | rfl <;> rcases h' with rfl | rfl | rfl <;> omega
/-- but for world w the states agree -/
def FW (w : Nat) (S S' : St) : Prop := gN S' = gN S ∧ gI S' 0 = gI S 0 ∧ OS S S' ∧ ∀ w', isW w' → w' ≠ w → gI S' w' = gI S w' ∧ gA S' (w' + 1) = gA S (w' + 1) ∧ gA S' (w' + 2) = gA S (w' + 2) ∧ ∀ j, j < 6 → gI S' (gN S (w' + 3) j) = gI S (gN S (w' + 3) j) ∧ gA S' (gN S (w' + 3) j + 1) = gA S (gN S (w' + 3) j + 1)
theorem FW.refl {w : Nat} (S : St) : FW w S S := ⟨rfl, rfl, OS.refl S, fun _ _ _ => ⟨rfl, rfl, rfl, fun _ _ => ⟨rfl, rfl⟩⟩⟩
theorem FW.trans {w : Nat} {S S1 S2 : St} (h : FW w S S1) (h' : FW w S1 S2) : FW w S S2 := by
  obtain ⟨a1, a2, a3, a4⟩ := h
  obtain ⟨b1, b2, b3, b4⟩ := h'
  refine ⟨b1.trans a1, b2.trans a2, a3.trans b3, fun w' hw' hne => ?_⟩
  obtain ⟨c1, c2, c3, c4⟩ := a4 w' hw' hne
  obtain ⟨d1, d2, d3, d4⟩ := b4 w' hw' hne
  rw [a1] at d4
  exact ⟨d1.trans c1, d2.trans c2, d3.trans c3, fun j hj => ⟨(d4 j hj).1.trans (c4 j hj).1, (d4 j hj).2.trans (c4 j hj).2⟩⟩
theorem FW.p {w j : Nat} {S : St} {i a : Nat → Int32} (hI : IC S) (hw : isW w) (hj : j < 6) : FW w S (sP S (gN S (w + 3) j) i a) := by
  have hP := (hI.2.1 w j hw hj).1
  have g := hP.1
  have g2 := hP.2.2
  refine ⟨rfl, gI_sPn (by omega), OS.sP hP, fun w' hw' hne => ?_⟩
  have g3 := hw'.lt
  refine ⟨gI_sPn (by omega), gA_sPn (by omega), gA_sPn (by omega), fun x hx => ?_⟩
  have hP' := (hI.2.1 w' x hw' hx).1
  have g4 := hP'.2.2
  have ne : gN S (w' + 3) x ≠ gN S (w + 3) j := fun e => hne (hI.2.2 w' x w j hw' hw hx hj e).1
  exact ⟨gI_sPn ne, gA_sPn (by omega)⟩
theorem FW.i {w k : Nat} {S : St} {v : Int32} (hI : IC S) (hw : isW w) : FW w S (sI S w k v) := by
  have g := hw.lt
  refine ⟨rfl, gI_sIn (by omega), ⟨by rw [gI_sIn (by omega)], rfl, by rw [gI_sIn (by omega)], rfl, rfl, rfl, rfl, by rw [gI_sIn (by omega)], rfl, fun d hd => ⟨gI_sIn (by omega), rfl, rfl⟩⟩, fun w' hw' hne => ⟨gI_sIn hne, rfl, rfl, fun x hx => ⟨?_, rfl⟩⟩⟩
  have := (hI.2.1 w' x hw' hx).1.1
  exact gI_sIn (by omega)
theorem FW.r {w c : Nat} {S : St} {f : Nat → Int32} (hI : IC S) (hw : isW w) (hc : c = w + 1 ∨ c = w + 2) : FW w S (sR S c f) := by
  have g := hw.lt
  refine ⟨rfl, rfl, ⟨rfl, gA_sRn (by omega), rfl, gA_sRn (by omega), rfl, gA_sRn (by omega), rfl, rfl, gA_sRn (by omega), fun d hd => ⟨rfl, gA_sRn (by omega), rfl⟩⟩, fun w' hw' hne => ?_⟩
  have g2 := isW.sep hw hw' hne
  refine ⟨rfl, gA_sRn (by omega), gA_sRn (by omega), fun x hx => ⟨rfl, ?_⟩⟩
  have := (hI.2.1 w' x hw' hx).1.1
  exact gA_sRn (by omega)
theorem IC.n {S S' : St} (h : IC S) (e : gN S' = gN S) : IC S' := by
  unfold IC
  rw [e]
  exact h
theorem NR.cpy {f g : Nat → Int32} {V : Nat → Nat} {N b : Nat} (h : NR f V N b) : NR (va_cpy f g 0 0 N) V N b := by
  intro j hj
  rw [pk_cpy_in (Nat.zero_le _) (by omega), Nat.sub_zero, Nat.zero_add]
  exact h j hj
theorem c_wc_l {w o c : Nat} {p : Nat → AP} {S0 : St} {K : Int32 → St → Prop} (hw : isW w) (ho : isW o) (hne : o ≠ w) (hI : IC S0) (h3 : gI S0 o 3 = nI c) (hc : c ≤ 6) (hp : ∀ j, j < c → RC (gI S0 (gN S0 (o + 3) j)) (gA S0 (gN S0 (o + 3) j + 1)) (p j)) (k : ∀ y S', FW w S0 S' → FC S' → gI S' w = gI S0 w → gA S' (w + 1) = gA S0 (w + 1) → gA S' (w + 2) = gA S0 (w + 2) → (∀ j, j < c → RC (gI S' (gN S0 (w + 3) j)) (gA S' (gN S0 (w + 3) j + 1)) (p j)) → K y S') : ∀ (m i : Nat) (S : St), i + m = c → FW w S0 S → FC S → gI S w = gI S0 w → gA S (w + 1) = gA S0 (w + 1) → gA S (w + 2) = gA S0 (w + 2) → (∀ j, j < i → RC (gI S (gN S0 (w + 3) j)) (gA S (gN S0 (w + 3) j + 1)) (p j)) → wl_X10_copyFrom_38 w o K (m + 1) (nI i) S
  | 0, i, S, hi, f1, f2, f3, f4, f5, f6 => by
    have e : gI S o 3 = nI c := by
      rw [(f1.2.2.2 o ho hne).1]
      exact h3
    rw [wl_X10_copyFrom_38, e]
    exact d_leT c i (by omega) (k _ S f1 f2 f3 f4 f5 (fun j hj => f6 j (by omega)))
  | m + 1, i, S, hi, f1, f2, f3, f4, f5, f6 => by
    have e : gI S o 3 = nI c := by
      rw [(f1.2.2.2 o ho hne).1]
      exact h3
    have eN : gN S = gN S0 := f1.1
    have g := (hI.2.1 w i hw (by omega)).1
    have g' := (hI.2.1 o i ho (by omega)).1
    have ne : gN S0 (o + 3) i ≠ gN S0 (w + 3) i := fun z => hne (hI.2.2 o i w i ho hw (by omega) (by omega) z).1
    rw [wl_X10_copyFrom_38, e, eN, nI_clamp (by omega)]
    refine d_leF c i (by omega) ⟨vp_in_nI (by omega) (by decide), nm_e ⟨g, vp_in_nI (by omega) (by decide), nm_e ⟨g', c_copy (p := p i) g g' ne ?_ fun i2 a2 hr2 => nm_r (nI_1 i) ?_⟩⟩⟩
    · rw [((f1.2.2.2 o ho hne).2.2.2 i (by omega)).1, ((f1.2.2.2 o ho hne).2.2.2 i (by omega)).2]
      exact hp i (by omega)
    · have fs : FW w S (sP S (gN S0 (w + 3) i) i2 a2) := by
        have := FW.p (i := i2) (a := a2) (hI.n eN) hw (j := i) (by omega)
        rw [eN] at this
        exact this
      have gw := hw.lt
      have gp := g.1
      have gq := g.2.2
      refine c_wc_l hw ho hne hI h3 hc hp k m (i + 1) _ (by omega) (f1.trans fs) (f2.sP hr2) ((gI_sPn (by omega)).trans f3) ((gA_sPn (by omega)).trans f4) ((gA_sPn (by omega)).trans f5) fun j hj => ?_
      by_cases ej : j = i
      · subst ej
        rw [gI_sP, gA_sP]
        exact hr2
      · have ne2 : gN S0 (w + 3) j ≠ gN S0 (w + 3) i := fun z => ej (hI.2.2 w j w i hw hw (by omega) (by omega) z).2
        rw [gI_sPn ne2, gA_sPn (by omega)]
        exact f6 j (by omega)
theorem CW.fw {S S' : St} {w o : Nat} {V L : Nat → Nat} {t c : Nat} {p : Nat → AP} (h : CW S o V L t c p) (hc : c ≤ 6) (f : FW w S S') (ho : isW o) (hne : o ≠ w) : CW S' o V L t c p := by
  obtain ⟨h1, h2, h3, h4, h5⟩ := h
  obtain ⟨a1, a2, a3, a4⟩ := f.2.2.2 o ho hne
  refine ⟨by rw [a2]; exact h1, by rw [a3]; exact h2, by rw [a1]; exact h3, by rw [a1]; exact h4, fun j hj => ?_⟩
  rw [f.1, (a4 j (by omega)).1, (a4 j (by omega)).2]
  exact h5 j hj
theorem c_world {w o : Nat} {S : St} {V L : Nat → Nat} {t c : Nat} {p : Nat → AP} {Q : St → Prop} (hw : isW w) (ho : isW o) (hne : o ≠ w) (hI : IC S) (hF : FC S) (h : CW S o V L t c p) (hc : c ≤ 6) (k : ∀ S', FW w S S' → FC S' → CW S' w V L t c p → gI S' w 5 = gI S o 5 → Q S') : wp_X10_copyFrom w o S Q := by
  obtain ⟨h1, h2, h3, h4, h5⟩ := h
  have gw := hw.lt
  have gs := isW.sep hw ho hne
  unfold wp_X10_copyFrom
  have key : ∀ S2 : St, FW w S S2 → FC S2 → gI S2 = gI S → gA S2 (w + 1) = va_cpy (gA S (o + 1)) (gA S (w + 1)) 0 0 200 → gA S2 (w + 2) = va_cpy (gA S (o + 2)) (gA S (w + 2)) 0 0 12 → ∃ m : Nat, wl_X10_copyFrom_38 w o (fun e2_10 S11 => (∀ S12 : St, S12 = sI S11 w 3 (gI S11 o 3) → (∀ S13 : St, S13 = sI S12 w 4 (gI S12 o 4) → (∀ S14 : St, S14 = sI S13 w 5 (gI S13 o 5) → Q S14)))) m (0 : Int32) S2 := by
    intro S2 f1 hF2 eI2 e1 e2
    have hI2 := hI.n f1.1
    obtain ⟨p1, p2, p3, p4⟩ := f1.2.2.2 o ho hne
    refine ⟨c + 1, c_wc_l (S0 := S2) (p := p) hw ho hne hI2 (by rw [p1]; exact h3) hc (fun j hj => ?_) (fun y S' f3 g1 g2 g3 g4 g5 => nm_e (nm_e (nm_e ?_))) c 0 S2 (by omega) (FW.refl S2) hF2 rfl rfl rfl (fun j hj => absurd hj (by omega))⟩
    · rw [f1.1, (p4 j (by omega)).1, (p4 j (by omega)).2]
      exact h5 j hj
    · obtain ⟨r1, r2, r3, r4⟩ := f3.2.2.2 o ho hne
      have hI3 := hI2.n f3.1
      have a3 : gI S' o 3 = nI c := by
        rw [r1, p1]
        exact h3
      refine k _ (f1.trans (f3.trans ((FW.i (S := S') (k := 3) (v := gI S' o 3) hI3 hw).trans ((FW.i (S := sI S' w 3 (gI S' o 3)) (k := 4) (v := gI (sI S' w 3 (gI S' o 3)) o 4) (hI3.n rfl) hw).trans (FW.i (hI3.n rfl) hw))))) (FC_I (FC_I (FC_I g1 (by omega)) (by omega)) (by omega)) ⟨?_, ?_, ?_, ?_, fun j hj => ?_⟩ ?_
      · show NR (gA S' (w + 1)) V 200 99
        rw [g3, e1]
        exact h1.cpy
      · show NR (gA S' (w + 2)) L 12 9
        rw [g4, e2]
        exact h2.cpy
      · exact (gI_sIk (by decide)).trans ((gI_sIk (by decide)).trans (gI_sIs.trans a3))
      · refine (gI_sIk (by decide)).trans (gI_sIs.trans ?_)
        rw [gI_sIn hne, r1, p1]
        exact h4
      · have gp := (hI3.2.1 w j hw (by omega)).1.1
        show RC (gI (sI (sI (sI S' w 3 _) w 4 _) w 5 _) (gN S' (w + 3) j)) (gA S' (gN S' (w + 3) j + 1)) (p j)
        rw [gI_sIn (by omega), gI_sIn (by omega), gI_sIn (by omega), f3.1]
        exact g5 j hj
      · refine gI_sIs.trans ?_
        rw [gI_sIn hne, gI_sIn hne, r1, p1]
  refine ⟨hw, ho, nm_e (nm_e (key _ ((FW.r hI hw (Or.inl rfl)).trans (FW.r (hI.n rfl) hw (Or.inr rfl))) hF rfl ?_ ?_))⟩
  · rw [gA_sRn (by omega), gA_sR]
  · rw [gA_sR, gA_sRn (by omega), gA_sRn (by omega)]
/-! the reference's rows are moved -/
def MV (a : Nat) (T T' : St) : Prop := (∀ c, c ≠ a → gA T' c = gA T c) ∧ (∀ k, k ≠ 37 → gI T' 0 k = gI T 0 k) ∧ gL T' = gL T
theorem MV.refl {a : Nat} (T : St) : MV a T T := ⟨fun _ _ => rfl, fun _ _ => rfl, rfl⟩
theorem MV.trans {a : Nat} {T T' T'' : St} (h : MV a T T') (h' : MV a T' T'') : MV a T T'' := ⟨fun c hc => (h'.1 c hc).trans (h.1 c hc), fun k hk => (h'.2.1 k hk).trans (h.2.1 k hk), h'.2.2.trans h.2.2⟩
theorem MV_step {T : St} {a k : Nat} {v x : Int32} : MV a T (sI (sA T a k v) 0 37 x) := by
  refine ⟨fun c hc => ?_, fun k' hk => ?_, rfl⟩
  · show gA (sA T a k v) c = gA T c
    exact gA_sAn hc
  · show gI (sI (sA T a k v) 0 37 x) 0 k' = gI (sA T a k v) 0 k'
    exact gI_sIk hk
theorem r_mrk_l {a b N : Nat} {x : Int32} {T0 : St} {K : Int32 → St → Prop} (ha : a ≠ 18) (hx : x = nI N) (hN : N ≤ lenR a) (hl : lenR a < 1000) (hb : b + N ≤ 330) (k : ∀ y T', MV 18 T0 T' → gI T' 0 37 = nI (b + N) → (∀ j, j < N → gA T' 18 (b + j) = gA T0 a j) → (∀ j, j < b → gA T' 18 j = gA T0 18 j) → K y T') : ∀ (m i : Nat) (T : St), i + m = N → MV 18 T0 T → gI T 0 37 = nI (b + i) → (∀ j, j < i → gA T 18 (b + j) = gA T0 a j) → (∀ j, j < b → gA T 18 j = gA T0 18 j) → wl_X12_moveRow_3 a x 1 K (m + 1) (nI i) T
  | 0, i, T, hi, h1, h2, h3, h4 => by
    have e : N = i := by omega
    subst e
    rw [wl_X12_moveRow_3]
    exact d_leT N N (Nat.le_refl _) (k _ T h1 h2 h3 h4) hx
  | m + 1, i, T, hi, h1, h2, h3, h4 => by
    rw [wl_X12_moveRow_3, h2, nI_clamp (by omega), nI_clamp (by omega)]
    refine d_leF N i (by omega) (d_1 ⟨vp_in_nI (by omega) (by omega), vp_in_nI (by omega) (by decide), nm_e (nm_e (nm_r (nI_1 i) ?_))⟩) hx
    refine r_mrk_l ha hx hN hl hb k m (i + 1) _ (by omega) (h1.trans MV_step) ?_ (fun j hj => ?_) (fun j hj => ?_)
    · refine gI_sIs.trans ?_
      show gI T 0 37 + 1 = _
      rw [h2]
      exact nI_1 (b + i)
    · show gA (sA T 18 (b + i) (gA T a i)) 18 (b + j) = _
      rw [gA_sA]
      by_cases e : j = i
      · subst e
        rw [u1_s, h1.1 a ha]
      · rw [u1_n (by omega)]
        exact h3 j (by omega)
    · show gA (sA T 18 (b + i) (gA T a i)) 18 j = _
      rw [gA_sA, u1_n (by omega)]
      exact h4 j hj
theorem r_mrk {a b N : Nat} {x : Int32} {T0 : St} {Q : St → Prop} (ha : a ≠ 18) (hR : isRI a) (hx : x = nI N) (hN : N ≤ lenR a) (hl : lenR a < 1000) (hb : b + N ≤ 330) (h37 : gI T0 0 37 = nI b) (k : ∀ T', MV 18 T0 T' → gI T' 0 37 = nI (b + N) → (∀ j, j < N → gA T' 18 (b + j) = gA T0 a j) → (∀ j, j < b → gA T' 18 j = gA T0 18 j) → Q T') : wp_X12_moveRow a x 1 T0 Q := by
  unfold wp_X12_moveRow
  exact ⟨hR, N + 1, r_mrk_l ha hx hN hl hb (fun _ T' => k T') N 0 T0 (by omega) (MV.refl T0) h37 (fun j hj => absurd hj (by omega)) (fun _ _ => rfl)⟩
theorem r_mra_l {a b N : Nat} {x : Int32} {T0 : St} {K : Int32 → St → Prop} (ha : a ≠ 18) (hx : x = nI N) (hN : N ≤ lenR a) (hl : lenR a < 1000) (hb : b + N ≤ 330) (k : ∀ y T', MV a T0 T' → gI T' 0 37 = nI (b + N) → (∀ j, j < N → gA T' a j = gA T0 18 (b + j)) → K y T') : ∀ (m i : Nat) (T : St), i + m = N → MV a T0 T → gI T 0 37 = nI (b + i) → (∀ j, j < i → gA T a j = gA T0 18 (b + j)) → wl_X12_moveRow_3 a x 0 K (m + 1) (nI i) T
  | 0, i, T, hi, h1, h2, h3 => by
    have e : N = i := by omega
    subst e
    rw [wl_X12_moveRow_3]
    exact d_leT N N (Nat.le_refl _) (k _ T h1 h2 h3) hx
  | m + 1, i, T, hi, h1, h2, h3 => by
    rw [wl_X12_moveRow_3, h2, nI_clamp (by omega), nI_clamp (by omega)]
    refine d_leF N i (by omega) (d_0 ⟨vp_in_nI (by omega) (by decide), vp_in_nI (by omega) (by omega), nm_e (nm_e (nm_r (nI_1 i) ?_))⟩) hx
    refine r_mra_l ha hx hN hl hb k m (i + 1) _ (by omega) (h1.trans MV_step) ?_ (fun j hj => ?_)
    · refine gI_sIs.trans ?_
      show gI T 0 37 + 1 = _
      rw [h2]
      exact nI_1 (b + i)
    · show gA (sA T a i (gA T 18 (b + i))) a j = _
      rw [gA_sA]
      by_cases e : j = i
      · subst e
        rw [u1_s, h1.1 18 (Ne.symm ha)]
      · rw [u1_n (by omega)]
        exact h3 j (by omega)
theorem r_mra {a b N : Nat} {x : Int32} {T0 : St} {Q : St → Prop} (ha : a ≠ 18) (hR : isRI a) (hx : x = nI N) (hN : N ≤ lenR a) (hl : lenR a < 1000) (hb : b + N ≤ 330) (h37 : gI T0 0 37 = nI b) (k : ∀ T', MV a T0 T' → gI T' 0 37 = nI (b + N) → (∀ j, j < N → gA T' a j = gA T0 18 (b + j)) → Q T') : wp_X12_moveRow a x 0 T0 Q := by
  unfold wp_X12_moveRow
  exact ⟨hR, N + 1, r_mra_l ha hx hN hl hb (fun _ T' => k T') N 0 T0 (by omega) (MV.refl T0) h37 (fun j hj => absurd hj (by omega))⟩
theorem MV_19 {T : St} {x y : Int32} : MV 19 T (sA (sI T 0 37 x) 19 0 y) := by
  refine ⟨fun c hc => ?_, fun k' hk => ?_, rfl⟩
  · show gA (sA (sI T 0 37 x) 19 0 y) c = gA (sI T 0 37 x) c
    exact gA_sAn hc
  · show gI (sI T 0 37 x) 0 k' = gI T 0 k'
    exact gI_sIk hk
theorem ri_1 : isRI 1 := ⟨by decide, by decide, by decide⟩
theorem ri_2 : isRI 2 := ⟨by decide, by decide, by decide⟩
theorem ri_3 : isRI 3 := ⟨by decide, by decide, by decide⟩
theorem ri_19 : isRI 19 := ⟨by decide, by decide, by decide⟩
theorem r_keep {T : St} {Q : St → Prop} (k : ∀ T', (∀ c, c ≠ 18 → c ≠ 19 → gA T' c = gA T c) → (∀ k, k ≠ 37 → gI T' 0 k = gI T 0 k) → gL T' = gL T → gA T' 18 0 = gI T 0 4 → (∀ j, j < 200 → gA T' 18 (1 + j) = gA T 1 j) → (∀ j, j < 12 → gA T' 18 (201 + j) = gA T 2 j) → (∀ j, j < 116 → gA T' 18 (213 + j) = gA T 3 j) → Q T') : wp_X12_moveAll 1 T Q := by
  unfold wp_X12_moveAll
  refine nm_e ⟨i_0 (by decide) (by decide), nm_e ?_⟩
  rw [e_0]
  have m0 : MV 19 T (sA (sI T 0 37 0) 19 0 (gI (sI T 0 37 0) 0 4)) := MV_19
  have e19 : gA (sA (sI T 0 37 0) 19 0 (gI (sI T 0 37 0) 0 4)) 19 0 = gI T 0 4 := by
    rw [gA_sA, u1_s]
    exact gI_sIk (by decide)
  have e37 : gI (sA (sI T 0 37 0) 19 0 (gI (sI T 0 37 0) 0 4)) 0 37 = nI 0 := by
    show gI (sI T 0 37 0) 0 37 = nI 0
    exact gI_sIs
  generalize sA (sI T 0 37 0) 19 0 (gI (sI T 0 37 0) 0 4) = T0 at m0 e19 e37 ⊢
  refine r_mrk (a := 19) (b := 0) (N := 1) (by decide) ri_19 rfl (by decide) (by decide) (by decide) e37 fun T1 m1 q1 v1 w1 => ?_
  refine r_mrk (a := 1) (b := 1) (N := 200) (by decide) ri_1 rfl (by decide) (by decide) (by decide) q1 fun T2 m2 q2 v2 w2 => ?_
  refine r_mrk (a := 2) (b := 201) (N := 12) (by decide) ri_2 rfl (by decide) (by decide) (by decide) q2 fun T3 m3 q3 v3 w3 => ?_
  refine r_mrk (a := 3) (b := 213) (N := 116) (by decide) ri_3 rfl (by decide) (by decide) (by decide) q3 fun T4 m4 q4 v4 w4 => ?_
  have M := m1.trans (m2.trans (m3.trans m4))
  refine k T4 (fun c h1 h2 => (M.1 c h1).trans (m0.1 c h2)) (fun x hx => (M.2.1 x hx).trans (m0.2.1 x hx)) (M.2.2.trans m0.2.2) ?_ (fun j hj => ?_) (fun j hj => ?_) (fun j hj => ?_)
  · rw [w4 0 (by decide), w3 0 (by decide), w2 0 (by decide), ← e19]
    exact v1 0 (by decide)
  · rw [w4 _ (by omega), w3 _ (by omega), v2 j hj, m1.1 1 (by decide), m0.1 1 (by decide)]
  · rw [w4 _ (by omega), v3 j hj, m2.1 2 (by decide), m1.1 2 (by decide), m0.1 2 (by decide)]
  · rw [v4 j hj, m3.1 3 (by decide), m2.1 3 (by decide), m1.1 3 (by decide), m0.1 3 (by decide)]
theorem r_again {T : St} {Q : St → Prop} (k : ∀ T', (∀ c, c ≠ 1 → c ≠ 2 → c ≠ 3 → c ≠ 19 → gA T' c = gA T c) → (∀ k, k ≠ 37 → gI T' 0 k = gI T 0 k) → gL T' = gL T → gA T' 19 0 = gA T 18 0 → (∀ j, j < 200 → gA T' 1 j = gA T 18 (1 + j)) → (∀ j, j < 12 → gA T' 2 j = gA T 18 (201 + j)) → (∀ j, j < 116 → gA T' 3 j = gA T 18 (213 + j)) → Q T') : wp_X12_moveAll 0 T Q := by
  unfold wp_X12_moveAll
  refine nm_e ⟨i_0 (by decide) (by decide), nm_e ?_⟩
  rw [e_0]
  have m0 : MV 19 T (sA (sI T 0 37 0) 19 0 (gI (sI T 0 37 0) 0 4)) := MV_19
  have e37 : gI (sA (sI T 0 37 0) 19 0 (gI (sI T 0 37 0) 0 4)) 0 37 = nI 0 := by
    show gI (sI T 0 37 0) 0 37 = nI 0
    exact gI_sIs
  generalize sA (sI T 0 37 0) 19 0 (gI (sI T 0 37 0) 0 4) = T0 at m0 e37 ⊢
  refine r_mra (a := 19) (b := 0) (N := 1) (by decide) ri_19 rfl (by decide) (by decide) (by decide) e37 fun T1 m1 q1 v1 => ?_
  refine r_mra (a := 1) (b := 1) (N := 200) (by decide) ri_1 rfl (by decide) (by decide) (by decide) q1 fun T2 m2 q2 v2 => ?_
  refine r_mra (a := 2) (b := 201) (N := 12) (by decide) ri_2 rfl (by decide) (by decide) (by decide) q2 fun T3 m3 q3 v3 => ?_
  refine r_mra (a := 3) (b := 213) (N := 116) (by decide) ri_3 rfl (by decide) (by decide) (by decide) q3 fun T4 m4 q4 v4 => ?_
  refine k T4 (fun c h1 h2 h3 h4 => ?_) (fun x hx => ?_) ?_ ?_ (fun j hj => ?_) (fun j hj => ?_) (fun j hj => ?_)
  · rw [m4.1 c h3, m3.1 c h2, m2.1 c h1, m1.1 c h4, m0.1 c h4]
  · rw [m4.2.1 x hx, m3.2.1 x hx, m2.2.1 x hx, m1.2.1 x hx, m0.2.1 x hx]
  · rw [m4.2.2, m3.2.2, m2.2.2, m1.2.2, m0.2.2]
  · rw [m4.1 19 (by decide), m3.1 19 (by decide), m2.1 19 (by decide), v1 0 (by decide), m0.1 18 (by decide)]
  · rw [m4.1 1 (by decide), m3.1 1 (by decide), v2 j hj, m1.1 18 (by decide), m0.1 18 (by decide)]
  · rw [m4.1 2 (by decide), v3 j hj, m2.1 18 (by decide), m1.1 18 (by decide), m0.1 18 (by decide)]
  · rw [v4 j hj, m3.1 18 (by decide), m2.1 18 (by decide), m1.1 18 (by decide), m0.1 18 (by decide)]
/-- what of the reference's others must stay -/
def OT3 (T T' : St) : Prop := (∀ k, k = 6 ∨ k = 21 ∨ k = 33 → gI T' 0 k = gI T 0 k) ∧ (∀ c, c = 4 ∨ c = 9 ∨ (11 ≤ c ∧ c ≤ 17) → gA T' c = gA T c) ∧ gL T' = gL T
theorem RO.of3 {n : List Nat} {S S' T T' : St} (h : RO n S T) (hS : OS S S') (hT : OT3 T T') : RO n S' T' := by
  obtain ⟨s1, s2, s3, s4, s5, s6, s7, s8, s9, s10⟩ := hS
  obtain ⟨t1, t2, t3⟩ := hT
  obtain ⟨o1, o2, o3, o4, o5⟩ := h
  have hd : DY n n S S' := DY.same s10
  exact ⟨o1.of2 s1 s2 (t1 6 (by decide)) (t2 4 (by decide)), o2.of2 s3 s4 (t1 21 (by decide)) (t2 9 (by decide)), o3.dy s5 hd (t2 11 (by decide)) (t2 12 (by decide)) (by rw [t3]), o4.dy s6 s7 hd (t2 14 (by decide)) (t2 15 (by decide)) (t2 16 (by decide)), o5.of2 s8 s9 (t1 33 (by decide)) (t2 17 (by decide))⟩
theorem OS_10 {S : St} {v : Int32} : OS S (sI S 0 10 v) := ⟨by rw [gI_sIn (by decide)], rfl, gI_sIk (by decide), rfl, rfl, rfl, rfl, by rw [gI_sIn (by decide)], rfl, fun d hd => ⟨gI_sIn (by omega), rfl, rfl⟩⟩
theorem st_keep : step_keep Rel := by
  intro n S T hn h
  have hw := h.1.w
  have h0 := h.2.2.1
  obtain ⟨V, L, t, c, p, hC⟩ := h.2.2.2.1
  have hc3 : gI S (gN S 0 8) 3 = nI c := hC.1.2.2.1
  have ht4 : gI S (gN S 0 8) 4 = nI t := hC.1.2.2.2.1
  have hc6 : c ≤ 6 := hC.2.1.2.1
  have ht5 : t ≤ 50 := hC.2.1.1
  have hr1 : gA T 3 1 = nI c := hC.2.2.2.2.1.2.1
  have hr0 : gA T 3 0 = nI t := hC.2.2.2.2.1.1
  unfold wp_X11_keep
  refine nm_e ⟨hw, c_world (V := V) (L := L) (t := t) (p := p) isW9 hw h.1.w9 h.1 h.2.1 hC.1 hc6 fun S2 f1 f2 f3 f4 => nm_e ?_⟩
  unfold wp_X12_keep
  refine r_keep fun T2 q1 q2 q3 q4 q5 q6 q7 => nm_e ⟨rfl, ?_⟩
  have hI2 := h.1.n f1.1
  have hs : SJ S2 (sI S2 0 10 1) := SJ_I (by decide)
  have e8 : gN (sI S2 0 10 1) 0 8 = gN S 0 8 := by
    show gN S2 0 8 = _
    rw [f1.1]
  have hcc := h.1.c
  refine ⟨hI2.si hs, f2.si hs, (gI_sIk (by decide)).trans ((q2 3 (by decide)).trans h0), ⟨V, L, t, c, p, ?_, hC.2.1, ?_, ?_, ?_, ?_⟩, ⟨gI_sIs.trans gI_sIs.symm, Or.inr ⟨gI_sIs, V, L, t, c, p, f3.si isW9 hI2 hc6 hs, hC.2.1, ?_, ?_, ?_, ?_⟩⟩, h.2.2.2.2.2.of3 (f1.2.2.1.trans OS_10) ⟨fun x hx => (gI_sIk (by omega)).trans (q2 x (by omega)), fun x hx => q1 x (by omega) (by omega), q3⟩⟩
  · rw [e8]
    exact (hC.1.fw hc6 f1 hw h.1.w9).si hw hI2 hc6 hs
  · show NR (gA T2 1) V 200 99
    rw [q1 1 (by decide) (by decide)]
    exact hC.2.2.1
  · show NR (gA T2 2) L 12 9
    rw [q1 2 (by decide) (by decide)]
    exact hC.2.2.2.1
  · show RW (gA T2 3) 0 t c p
    rw [q1 3 (by decide) (by decide)]
    exact hC.2.2.2.2.1
  · rw [e8, gI_sIn (by omega), (f1.2.2.2 _ hw h.1.w9).1]
    exact hC.2.2.2.2.2.trans ((q2 4 (by decide)).symm.trans (gI_sIk (by decide)).symm)
  · rw [gI_sIn (by decide), f4, hC.2.2.2.2.2]
    exact q4.symm
  · intro j hj
    show gA T2 18 (1 + j) = nI (V j) ∧ V j ≤ 99
    rw [q5 j hj]
    exact hC.2.2.1 j hj
  · intro j hj
    show gA T2 18 (201 + j) = nI (L j) ∧ L j ≤ 9
    rw [q6 j hj]
    exact hC.2.2.2.1 j hj
  · refine hC.2.2.2.2.1.eq hC.2.1 fun j hj => ?_
    rw [Nat.zero_add]
    exact q7 j hj
theorem st_again : step_again Rel := by
  intro n S T hn h
  have hw := h.1.w
  have h0 := h.2.2.1
  obtain ⟨V, L, t, c, p, hC⟩ := h.2.2.2.1
  have hc3 : gI S (gN S 0 8) 3 = nI c := hC.1.2.2.1
  have ht4 : gI S (gN S 0 8) 4 = nI t := hC.1.2.2.2.1
  have hc6 : c ≤ 6 := hC.2.1.2.1
  have ht5 : t ≤ 50 := hC.2.1.1
  have hr1 : gA T 3 1 = nI c := hC.2.2.2.2.1.2.1
  have hr0 : gA T 3 0 = nI t := hC.2.2.2.2.1.1
  unfold wp_X11_again
  obtain ⟨k1, k2⟩ := h.2.2.2.2.1
  rcases k2 with k2 | ⟨k2, V2, L2, t2, c2, p2, k3, k4, k5, k6, k7, k8⟩
  · refine br_t (k1.trans k2) ?_
    unfold wp_X12_again
    exact br_t k2 ⟨rfl, h⟩
  · have hne : gN S 0 8 ≠ 9 := h.1.w9
    have n1 : ¬ gI T 0 35 = 0 := by
      rw [k2]
      decide
    refine br_f (by rw [k1]; exact n1) (nm_e ⟨hw, c_world (V := V2) (L := L2) (t := t2) (p := p2) hw isW9 (Ne.symm hne) h.1 h.2.1 k3 k4.2.1 fun S2 f1 f2 f3 f4 => nm_e ⟨?_, ?_⟩⟩)
    · rw [f1.1]
      exact hw
    have e8 : gN S2 0 8 = gN S 0 8 := by rw [f1.1]
    unfold wp_X12_again
    refine br_f n1 (r_again fun T2 q1 q2 q3 q4 q5 q6 q7 => ⟨i_0 (by decide) (by decide), nm_e ⟨i_1 (by decide) (by decide), ?_, ?_⟩⟩)
    · rw [e8, e_1, f3.2.2.1]
      show nI c2 = gA T2 3 1
      rw [q7 1 (by decide)]
      exact k8.2.1.symm
    rw [e_0]
    refine ⟨h.1.n f1.1, f2, (gI_sIk (by decide)).trans ((q2 3 (by decide)).trans h0), ⟨V2, L2, t2, c2, p2, by rw [e8]; exact f3, k4, ?_, ?_, ?_, ?_⟩, ⟨?_, Or.inr ⟨?_, V2, L2, t2, c2, p2, k3.fw k4.2.1 f1 isW9 (Ne.symm hne), k4, ?_, ?_, ?_, ?_⟩⟩, h.2.2.2.2.2.of3 f1.2.2.1 ⟨fun x hx => (gI_sIk (by omega)).trans (q2 x (by omega)), fun x hx => q1 x (by omega) (by omega) (by omega) (by omega), q3⟩⟩
    · intro j hj
      show gA T2 1 j = nI (V2 j) ∧ V2 j ≤ 99
      rw [q5 j hj]
      exact k6 j hj
    · intro j hj
      show gA T2 2 j = nI (L2 j) ∧ L2 j ≤ 9
      rw [q6 j hj]
      exact k7 j hj
    · refine k8.eq k4 fun j hj => ?_
      rw [Nat.zero_add]
      exact q7 j hj
    · rw [e8, f4, k5]
      exact q4.symm.trans gI_sIs.symm
    · rw [f1.2.1]
      exact k1.trans ((q2 35 (by decide)).symm.trans (gI_sIk (by decide)).symm)
    · exact (gI_sIk (by decide)).trans ((q2 35 (by decide)).trans k2)
    · rw [(f1.2.2.2 9 isW9 (Ne.symm hne)).1, k5]
      show gA T 18 0 = gA T2 18 0
      rw [q1 18 (by decide) (by decide) (by decide) (by decide)]
    · show NR (fun j => gA T2 18 (1 + j)) V2 200 99
      rw [q1 18 (by decide) (by decide) (by decide) (by decide)]
      exact k6
    · show NR (fun j => gA T2 18 (201 + j)) L2 12 9
      rw [q1 18 (by decide) (by decide) (by decide) (by decide)]
      exact k7
    · show RW (gA T2 18) 213 t2 c2 p2
      rw [q1 18 (by decide) (by decide) (by decide) (by decide)]
      exact k8
