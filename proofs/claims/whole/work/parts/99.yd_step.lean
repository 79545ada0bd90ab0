/-! STEPS: quarry, the end of it -/
theorem IC.w0 {S : St} (h : IC S) : isW (gN S 0 9) ∧ gN S 0 8 ≠ gN S 0 9 ∧ gN S 0 9 ≠ 9 := by
  rcases h.1 with ⟨h1, h2⟩ | ⟨h1, h2⟩
  · rw [h1, h2]
    exact ⟨Or.inr (Or.inr rfl), by decide, by decide⟩
  · rw [h1, h2]
    exact ⟨Or.inr (Or.inl rfl), by decide, by decide⟩
theorem Rel.qfail {n : List Nat} {S T S' T' : St} {w : Nat} (h : Rel n S T) (hw : w = gN S 0 9) (f : FW w S S') (hF : FC S') (ht : RFm T T') : Rel n (sI S' 1 1 0) (sI T' 0 6 0) := by
  obtain ⟨hI, -, h0, ⟨V, L, t, c, p, hC⟩, hK, ⟨o1, o2, o3, o4, o5⟩⟩ := h
  obtain ⟨w1, w2, w3⟩ := hI.w0
  have hcc := hI.c
  have hI' := hI.n f.1
  have hs : SJ S' (sI S' 1 1 0) := SJ_I (by decide)
  have e8 : gN (sI S' 1 1 0) 0 8 = gN S 0 8 := by
    show gN S' 0 8 = _
    rw [f.1]
  have tI : ∀ k, k ≠ 6 → k ≠ 7 → k ≠ 8 → k ≠ 9 → k ≠ 11 → k ≠ 12 → k ≠ 13 → k ≠ 14 → gI (sI T' 0 6 0) 0 k = gI T 0 k := fun k a b c d e f g i => (gI_sIk a).trans (ht.1 k b c d e f g i)
  have tA : ∀ c, c < 5 ∨ 8 < c → gA (sI T' 0 6 0) c = gA T c := fun c hc => ht.2.1 c hc
  have hS := f.2.2.1
  have hd : DY n n S (sI S' 1 1 0) := DY.same fun c hc => ⟨(gI_sIn (by omega)).trans (hS.2.2.2.2.2.2.2.2.2 c hc).1, (hS.2.2.2.2.2.2.2.2.2 c hc).2.1, (hS.2.2.2.2.2.2.2.2.2 c hc).2.2⟩
  refine ⟨hI'.n rfl, hF.si hs, (tI 3 (by decide) (by decide) (by decide) (by decide) (by decide) (by decide) (by decide) (by decide)).trans h0, ⟨V, L, t, c, p, ?_, hC.2.1, ?_, ?_, ?_, ?_⟩, ?_, ⟨⟨0, by decide, gI_sIs, gI_sIs, fun j hj => absurd hj (Nat.not_lt_zero j)⟩, o2.of2 ?_ hS.2.2.2.1 (tI 21 (by decide) (by decide) (by decide) (by decide) (by decide) (by decide) (by decide) (by decide)) (tA 9 (by decide)), o3.dy hS.2.2.2.2.1 hd (tA 11 (by decide)) (tA 12 (by decide)) (by show gL T' 13 = _; rw [ht.2.2]), o4.dy hS.2.2.2.2.2.1 hS.2.2.2.2.2.2.1 hd (tA 14 (by decide)) (tA 15 (by decide)) (tA 16 (by decide)), o5.of2 ?_ hS.2.2.2.2.2.2.2.2.1 (tI 33 (by decide) (by decide) (by decide) (by decide) (by decide) (by decide) (by decide) (by decide)) (tA 17 (by decide))⟩⟩
  · rw [e8]
    exact (hC.1.fw hC.2.1.2.1 f hI.w (by rw [hw]; exact w2)).si hI.w hI' hC.2.1.2.1 hs
  · rw [tA 1 (by decide)]
    exact hC.2.2.1
  · rw [tA 2 (by decide)]
    exact hC.2.2.2.1
  · rw [tA 3 (by decide)]
    exact hC.2.2.2.2.1
  · rw [e8, gI_sIn (by omega), (f.2.2.2 _ hI.w (by rw [hw]; exact w2)).1, tI 4 (by decide) (by decide) (by decide) (by decide) (by decide) (by decide) (by decide) (by decide)]
    exact hC.2.2.2.2.2
  · unfold RKept
    rw [gI_sIn (by decide), f.2.1, tI 35 (by decide) (by decide) (by decide) (by decide) (by decide) (by decide) (by decide) (by decide), tA 18 (by decide), gI_sIn (by decide), (f.2.2.2 9 isW9 (by rw [hw]; exact Ne.symm w3)).1]
    refine ⟨hK.1, ?_⟩
    rcases hK.2 with h | ⟨h, V, L, t, c, p, k1, k2, k3⟩
    · exact Or.inl h
    · exact Or.inr ⟨h, V, L, t, c, p, (k1.fw k2.2.1 f isW9 (by rw [hw]; exact Ne.symm w3)).si isW9 hI' k2.2.1 hs, k2, k3⟩
  · rw [gI_sIn (by decide)]
    exact hS.2.2.1
  · rw [gI_sIn (by decide)]
    exact hS.2.2.2.2.2.2.2.1
theorem Rel.qdone {n : List Nat} {S T S' T' : St} {w w0 : Nat} {W : WD} {f1 f2 r : Nat → Int32} (h : Rel n S T) (hw : w = gN S 0 9) (hw0 : w0 = gN S 0 8) (f : FW w S S') (hF : FC S') (hW : CWd S' w W) (h5 : gI S' w 5 = gI S w0 5) (ht : RFm T T') (hf1 : NR f1 W.1 200 99) (hf2 : NR f2 W.2.1 12 9) (hr : RW r 0 W.2.2.1 W.2.2.2.1 (wAP W)) : Rel n (sI (sN (sN (sI S' 1 1 0) 0 8 w) 0 9 w0) 0 11 0) (sI (sR (sR (sR (sI T' 0 6 0) 1 f1) 2 f2) 3 r) 0 21 0) := by
  obtain ⟨hI, -, h0, ⟨V, L, t, c, p, hC⟩, hK, ⟨o1, o2, o3, o4, o5⟩⟩ := h
  obtain ⟨w1, w2, w3⟩ := hI.w0
  have hcc := hI.c
  have hI' := hI.n f.1
  have hww : isW w := by
    rw [hw]
    exact w1
  have gw := hww.lt
  have tI : ∀ k, k ≠ 6 → k ≠ 7 → k ≠ 8 → k ≠ 9 → k ≠ 11 → k ≠ 12 → k ≠ 13 → k ≠ 14 → k ≠ 21 → gI (sI (sR (sR (sR (sI T' 0 6 0) 1 f1) 2 f2) 3 r) 0 21 0) 0 k = gI T 0 k := fun k a b c d e f g i j => (gI_sIk j).trans ((gI_sIk (S := T') (c := 0) (k := 6) (v := 0) a).trans (ht.1 k b c d e f g i))
  have tA : ∀ c, 3 < c → (c < 5 ∨ 8 < c) → gA (sI (sR (sR (sR (sI T' 0 6 0) 1 f1) 2 f2) 3 r) 0 21 0) c = gA T c := fun c hc hc2 => by
    show gA (sR (sR (sR (sI T' 0 6 0) 1 f1) 2 f2) 3 r) c = _
    rw [gA_sRn (by omega), gA_sRn (by omega), gA_sRn (by omega)]
    exact ht.2.1 c hc2
  have sI1 : ∀ c, c ≠ 0 → c ≠ 1 → gI (sI (sN (sN (sI S' 1 1 0) 0 8 w) 0 9 w0) 0 11 0) c = gI S' c := fun c a b => (gI_sIn a).trans (gI_sIn (S := S') b)
  have sI0 : ∀ k, k ≠ 11 → gI (sI (sN (sN (sI S' 1 1 0) 0 8 w) 0 9 w0) 0 11 0) 0 k = gI S' 0 k := fun k a => (gI_sIk a).trans (by
    show gI (sI S' 1 1 0) 0 k = _
    rw [gI_sIn (by decide)])
  have sN1 : ∀ c, c ≠ 0 → gN (sI (sN (sN (sI S' 1 1 0) 0 8 w) 0 9 w0) 0 11 0) c = gN S' c := fun c a => by
    show gN (sN (sN (sI S' 1 1 0) 0 8 w) 0 9 w0) c = _
    rw [gN_sNn a, gN_sNn a]
    rfl
  have e8 : gN (sI (sN (sN (sI S' 1 1 0) 0 8 w) 0 9 w0) 0 11 0) 0 8 = w := by
    show gN (sN (sN (sI S' 1 1 0) 0 8 w) 0 9 w0) 0 8 = _
    rw [gN_sN, gN_sN, u1_n (by decide), u1_s]
  have e9 : gN (sI (sN (sN (sI S' 1 1 0) 0 8 w) 0 9 w0) 0 11 0) 0 9 = w0 := by
    show gN (sN (sN (sI S' 1 1 0) 0 8 w) 0 9 w0) 0 9 = _
    rw [gN_sN, u1_s]
  have hS := f.2.2.1
  have hd : DY n n S (sI (sN (sN (sI S' 1 1 0) 0 8 w) 0 9 w0) 0 11 0) := DY.same fun c hc => ⟨(sI1 c (by omega) (by omega)).trans (hS.2.2.2.2.2.2.2.2.2 c hc).1, (hS.2.2.2.2.2.2.2.2.2 c hc).2.1, (sN1 c (by omega)).trans (hS.2.2.2.2.2.2.2.2.2 c hc).2.2⟩
  have pw : ∀ (u : Nat) (V L : Nat → Nat) (t c : Nat) (p : Nat → AP), isW u → c ≤ 6 → CW S' u V L t c p → CW (sI (sN (sN (sI S' 1 1 0) 0 8 w) 0 9 w0) 0 11 0) u V L t c p := by
    intro u V L t c p hu hc6 ⟨h1, h2, h3, h4, h5⟩
    have gu := hu.lt
    refine ⟨h1, h2, ?_, ?_, fun j hj => ?_⟩
    · rw [sI1 u (by omega) (by omega)]
      exact h3
    · rw [sI1 u (by omega) (by omega)]
      exact h4
    · have gp := (hI'.2.1 u j hu (by omega)).1.1
      rw [sN1 (u + 3) (by omega), sI1 _ (by omega) (by omega)]
      exact h5 j hj
  refine ⟨⟨?_, fun u j hu hj => ?_, fun u j u' j' hu hu' hj hj' e => ?_⟩, fun P hP => ?_, (tI 3 (by decide) (by decide) (by decide) (by decide) (by decide) (by decide) (by decide) (by decide) (by decide)).trans h0, ⟨W.1, W.2.1, W.2.2.1, W.2.2.2.1, wAP W, ?_, ⟨hW.2.1, hW.2.2.1, fun j hj => ?_⟩, ?_, ?_, ?_, ?_⟩, ?_, ⟨⟨0, by decide, ?_, ?_, fun j hj => absurd hj (Nat.not_lt_zero j)⟩, ⟨0, by decide, gI_sIs, gI_sIs, fun j hj => absurd hj (by omega)⟩, o3.dy ((sN1 4 (by decide)).trans hS.2.2.2.2.1) hd (tA 11 (by decide) (by decide)) (tA 12 (by decide) (by decide)) (by show gL T' 13 = _; rw [ht.2.2]), o4.dy hS.2.2.2.2.2.1 ((sN1 6 (by decide)).trans hS.2.2.2.2.2.2.1) hd (tA 14 (by decide) (by decide)) (tA 15 (by decide) (by decide)) (tA 16 (by decide) (by decide)), o5.of2 ?_ hS.2.2.2.2.2.2.2.2.1 (tI 33 (by decide) (by decide) (by decide) (by decide) (by decide) (by decide) (by decide) (by decide) (by decide)) (tA 17 (by decide) (by decide))⟩⟩
  · rw [e8, e9, hw, hw0]
    rcases hI.1 with ⟨a, b⟩ | ⟨a, b⟩
    · exact Or.inr ⟨b, a⟩
    · exact Or.inl ⟨b, a⟩
  · have gu := hu.lt
    rw [sN1 (u + 3) (by omega)]
    exact hI'.2.1 u j hu hj
  · have gu := hu.lt
    have gu' := hu'.lt
    rw [sN1 (u + 3) (by omega), sN1 (u' + 3) (by omega)] at e
    exact hI'.2.2 u j u' j' hu hu' hj hj' e
  · have gP := hP.1
    rw [sI1 P (by omega) (by omega)]
    exact hF P hP
  · rw [e8]
    exact pw w _ _ _ _ _ hww hW.2.2.1 hW.1
  · obtain ⟨a, b, c, d⟩ := hW.2.2.2 j hj
    exact ⟨a, b, c, d, fun i hi => Or.inl rfl⟩
  · show NR (gA (sR (sR (sR (sI T' 0 6 0) 1 f1) 2 f2) 3 r) 1) W.1 200 99
    rw [gA_sRn (by decide), gA_sRn (by decide), gA_sR]
    exact hf1
  · show NR (gA (sR (sR (sR (sI T' 0 6 0) 1 f1) 2 f2) 3 r) 2) W.2.1 12 9
    rw [gA_sRn (by decide), gA_sR]
    exact hf2
  · show RW (gA (sR (sR (sR (sI T' 0 6 0) 1 f1) 2 f2) 3 r) 3) 0 W.2.2.1 W.2.2.2.1 (wAP W)
    rw [gA_sR]
    exact hr
  · rw [e8, sI1 w (by omega) (by omega), h5, hw0, hC.2.2.2.2.2]
    exact (tI 4 (by decide) (by decide) (by decide) (by decide) (by decide) (by decide) (by decide) (by decide) (by decide)).symm
  · unfold RKept
    rw [sI0 10 (by decide), f.2.1, tI 35 (by decide) (by decide) (by decide) (by decide) (by decide) (by decide) (by decide) (by decide) (by decide), tA 18 (by decide) (by decide), sI1 9 (by decide) (by decide), (f.2.2.2 9 isW9 (by rw [hw]; exact Ne.symm w3)).1]
    refine ⟨hK.1, ?_⟩
    rcases hK.2 with h | ⟨h, V, L, t, c, p, k1, k2, k3⟩
    · exact Or.inl h
    · exact Or.inr ⟨h, V, L, t, c, p, pw 9 _ _ _ _ _ isW9 k2.2.1 (k1.fw k2.2.1 f isW9 (by rw [hw]; exact Ne.symm w3)), k2, k3⟩
  · rw [gI_sIn (by decide)]
    show gI (sI S' 1 1 0) 1 1 = nI 0
    exact gI_sIs
  · refine (gI_sIk (by decide)).trans ?_
    show gI (sI T' 0 6 0) 0 6 = nI 0
    exact gI_sIs
  · rw [sI1 7 (by decide) (by decide)]
    exact hS.2.2.2.2.2.2.2.1
theorem st_quarry : step_quarry Rel := by
  intro n S T hn h
  have hw := h.1.w
  have h0 := h.2.2.1
  obtain ⟨V, L, t, c, p, hC⟩ := h.2.2.2.1
  have hc3 : gI S (gN S 0 8) 3 = nI c := hC.1.2.2.1
  have ht4 : gI S (gN S 0 8) 4 = nI t := hC.1.2.2.2.1
  have hc6 : c ≤ 6 := hC.2.1.2.1
  have ht5 : t ≤ 50 := hC.2.1.1
  have hr1 : gA T 3 1 = nI c := hC.2.2.2.2.1.2.1
  have hr0 : gA T 3 0 = nI t := hC.2.2.2.2.1.1
  unfold wp_X11_quarry
  obtain ⟨len, hk, hk1, hk2, hk3⟩ := h.2.2.2.2.2.1
  obtain ⟨B, hB⟩ : ∃ B : Nat → Nat, ∀ j, j < len → (gA S 2 j = nI (B j) ∧ gA T 4 j = nI (B j)) ∧ B j < 256 := by
    refine ⟨fun j => (gA T 4 j).toNatClampNeg, fun j hj => ?_⟩
    obtain ⟨a, x, hx, e⟩ := hk3 j hj
    have e2 : (gA T 4 j).toNatClampNeg = x := by
      rw [e]
      exact nI_clamp (by omega)
    show (gA S 2 j = nI (gA T 4 j).toNatClampNeg ∧ gA T 4 j = nI (gA T 4 j).toNatClampNeg) ∧ (gA T 4 j).toNatClampNeg < 256
    rw [a, e2]
    exact ⟨⟨e, e⟩, hx⟩
  have hR : RP B len T := ⟨hk2, hk, fun j hj => ⟨(hB j hj).1.2, (hB j hj).2⟩⟩
  obtain ⟨w1, w2, w3⟩ := h.1.w0
  have gw := w1.lt
  refine nm_e ⟨w1, c_clear w1 h.1 h.2.1 fun S2 f2 F2 cw2 => ?_⟩
  have e8 : gN S2 0 8 = gN S 0 8 := by rw [f2.1]
  have e9 : gN S2 0 9 = gN S 0 9 := by rw [f2.1]
  refine nm_r e9 ⟨w1, nm_r e8 ⟨hw, nm_e ?_⟩⟩
  have hI2 := h.1.n f2.1
  have f5 : FW (gN S 0 9) S (sI S2 (gN S 0 9) 5 (gI S2 (gN S 0 8) 5)) := f2.trans (FW.i hI2 w1)
  have F5 : FC (sI S2 (gN S 0 9) 5 (gI S2 (gN S 0 8) 5)) := FC_I F2 (by omega)
  have z5 : gI (sI S2 (gN S 0 9) 5 (gI S2 (gN S 0 8) 5)) (gN S 0 9) 5 = gI S (gN S 0 8) 5 := by
    refine gI_sIs.trans ?_
    rw [(f2.2.2.2 _ hw w2).1]
  have cw5 : CWd (sI S2 (gN S 0 9) 5 (gI S2 (gN S 0 8) 5)) (gN S 0 9) W0 := by
    obtain ⟨⟨a1, a2, a3, a4, a5⟩, a6⟩ := cw2
    exact ⟨⟨a1, a2, (gI_sIk (by decide)).trans a3, (gI_sIk (by decide)).trans a4, fun j hj => absurd hj (Nat.not_lt_zero j)⟩, a6⟩
  generalize sI S2 (gN S 0 9) 5 (gI S2 (gN S 0 8) 5) = S5 at f5 F5 z5 cw5 ⊢
  have hI5 := h.1.n f5.1
  have hE : CE S5 (gN S 0 9) B len := ⟨w1, hI5, f5.2.2.1.1.trans hk1, hk, fun j hj => ⟨by rw [f5.2.2.1.2.1]; exact (hB j hj).1.1, (hB j hj).2⟩⟩
  refine nm_r (show gN S5 0 9 = gN S 0 9 by rw [f5.1]) ⟨w1, ?_⟩
  unfold wp_X4_readInto
  have hX : CX S5 (gN S 0 9) B len (sI (sI S5 1 2 0) 1 4 (-1)) (.inr 0) W0 := by
    refine ⟨(FW.one (k := 2) (v := 0) hI5 (by decide)).trans (FW.one (hI5.n rfl) (by decide)), F5.si ((SJ_I (by decide)).trans (SJ_I (by decide))), ⟨⟨0, by decide, ?_⟩, ?_⟩, ⟨0, Nat.zero_le _, (gI_sIk (by decide)).trans gI_sIs, fun p hp => by cases hp; rfl⟩, fun f hf => (by cases hf), fun p hp => ⟨by cases hp; exact Nat.zero_le _, gI_sIs, cw5.1.si w1 hI5 cw5.2.2.1 ((SJ_I (by decide)).trans (SJ_I (by decide))), cw5.2⟩⟩
    · rw [gI_sIn (by omega), gI_sIn (by omega)]
      exact cw5.1.2.2.1
    · rw [gI_sIn (by omega), gI_sIn (by omega)]
  refine ⟨w1, nm_e (nm_e (cx_look hE hX fun S3 h3 g3 => ⟨len + 1, cx_into_l hE len 0 0 S3 W0 (by omega) (Nat.le_refl _) h3 (g3 0 rfl).2 (fun y S' h' => nm_e ?_)⟩))⟩
  rw [show gI (sI S' 1 1 0) 1 4 = gI S' 1 4 from gI_sIk (by decide)]
  have fS := f5.trans h'.1
  have hN : gN S' = gN S := fS.1
  cases hz : (aTx B len len (.inr 0) W0).1 with
  | inl f =>
    rw [hz] at h'
    have hf := h'.2.2.2.2.1 f rfl
    rw [hf.2]
    refine br_f (nI_pos (by omega)) (r_quarry hR h0 (fun f' T' hf' ht => ⟨?_, h.qfail rfl fS h'.2.1 ht⟩) (fun p' T' f1 f2 r hp' => ?_))
    · rw [hz] at hf'
      cases hf'
      rfl
    · rw [hz] at hp'
      cases hp'
  | inr p' =>
    rw [hz] at h'
    obtain ⟨b1, b2, b3⟩ := h'.2.2.2.2.2 p' rfl
    rw [b2]
    refine br_t (mI_lt (by decide) (by decide) 0 (by decide)) (nm_r (show gN (sI S' 1 1 0) 0 8 = gN S 0 8 by show gN S' 0 8 = _; rw [hN]) ⟨hw, nm_r (show gN (sI S' 1 1 0) 0 9 = gN S 0 9 by show gN S' 0 9 = _; rw [hN]) ⟨w1, nm_e (nm_e (nm_e (nm_r (e' := gN S 0 9) ?_ ⟨w1, ?_⟩)))⟩⟩)
    · show gN (sN (sN (sI S' 1 1 0) 0 8 (gN S 0 9)) 0 9 (gN S 0 8)) 0 8 = _
      rw [gN_sN, gN_sN, u1_n (by decide), u1_s]
    · have ea : gI (sI (sN (sN (sI S' 1 1 0) 0 8 (gN S 0 9)) 0 9 (gN S 0 8)) 0 11 0) (gN S 0 9) 3 = nI (aTx B len len (.inr 0) W0).2.2.2.2.1 := by
        rw [gI_sIn (by omega)]
        show gI (sI S' 1 1 0) (gN S 0 9) 3 = _
        rw [gI_sIn (by omega)]
        exact b3.1.2.2.1
      rw [ea]
      refine r_quarry hR h0 (fun f' T' hf' ht => ?_) (fun p2 T' f1 f2 r hp2 ht hwv hf1 hf2 hr => ⟨rfl, h.qdone rfl rfl fS h'.2.1 b3 ?_ ht hf1 hf2 hr⟩)
      · rw [hz] at hf'
        cases hf'
      · rw [h'.2.2.1.2]
        exact z5
