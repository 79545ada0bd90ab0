/-! STEPS: quarry -/
def W0 : WD := (fun _ => 0, fun _ => 1, 0, 0, fun _ => (0, 0, 0))
theorem c_clr1 {w : Nat} {X : St} {K : Int32 → St → Prop} (k : ∀ y f, (∀ j, j < 200 → f j = 0) → K y (sR X (w + 1) f)) : ∀ (m i : Nat) (f : Nat → Int32), i + m = 200 → (∀ j, j < i → f j = 0) → wl_X10_clear_12 w K (m + 1) (nI i) (sR X (w + 1) f)
  | 0, i, f, hi, hf => by
    have e : i = 200 := by omega
    subst e
    rw [wl_X10_clear_12]
    exact d_leT 200 200 (Nat.le_refl _) (k _ f hf)
  | m + 1, i, f, hi, hf => by
    rw [wl_X10_clear_12, nI_clamp (by omega)]
    refine d_leF 200 i (by omega) ⟨vp_in_nI (by omega) (by decide), nm_e (nm_r (nI_1 i) ?_)⟩
    rw [sA_R, gA_sR, sR_sR]
    refine c_clr1 k m (i + 1) _ (by omega) fun j hj => ?_
    by_cases e : j = i
    · subst e
      exact u1_s
    · rw [u1_n e]
      exact hf j (by omega)
theorem c_clr2 {w : Nat} {X : St} {K : Int32 → St → Prop} (k : ∀ y f, (∀ j, j < 12 → f j = 1) → K y (sR X (w + 2) f)) : ∀ (m i : Nat) (f : Nat → Int32), i + m = 12 → (∀ j, j < i → f j = 1) → wl_X10_clear_36 w K (m + 1) (nI i) (sR X (w + 2) f)
  | 0, i, f, hi, hf => by
    have e : i = 12 := by omega
    subst e
    rw [wl_X10_clear_36]
    exact d_leT 12 12 (Nat.le_refl _) (k _ f hf)
  | m + 1, i, f, hi, hf => by
    rw [wl_X10_clear_36, nI_clamp (by omega)]
    refine d_leF 12 i (by omega) ⟨vp_in_nI (by omega) (by decide), nm_e (nm_r (nI_1 i) ?_)⟩
    rw [sA_R, gA_sR, sR_sR]
    refine c_clr2 k m (i + 1) _ (by omega) fun j hj => ?_
    by_cases e : j = i
    · subst e
      exact u1_s
    · rw [u1_n e]
      exact hf j (by omega)
theorem c_clear {w : Nat} {S : St} {Q : St → Prop} (hw : isW w) (hI : IC S) (hF : FC S) (k : ∀ S', FW w S S' → FC S' → CWd S' w W0 → Q S') : wp_X10_clear w S Q := by
  have g := hw.lt
  unfold wp_X10_clear
  refine ⟨hw, nm_e (nm_e ⟨200 + 1, ?_⟩)⟩
  have a := c_clr1 (w := w) (X := sI (sI S w 3 0) w 4 0) (K := fun _ S8 => ∃ m_36 : Nat, wl_X10_clear_36 w (fun e1_13 S14 => Q S14) m_36 (0 : Int32) S8) (fun y f hf => ⟨12 + 1, ?_⟩) 200 0 (gA (sI (sI S w 3 0) w 4 0) (w + 1)) (by decide) (fun j hj => absurd hj (Nat.not_lt_zero j))
  · rw [sR_self] at a
    exact a
  · have b := c_clr2 (w := w) (X := sR (sI (sI S w 3 0) w 4 0) (w + 1) f) (K := fun _ S14 => Q S14) (fun y2 f2 hf2 => k _ ?_ ?_ ⟨⟨?_, ?_, ?_, ?_, fun j hj => absurd hj (Nat.not_lt_zero j)⟩, ⟨Nat.zero_le _, Nat.zero_le _, fun j hj => absurd hj (Nat.not_lt_zero j)⟩⟩) 12 0 (gA (sR (sI (sI S w 3 0) w 4 0) (w + 1) f) (w + 2)) (by decide) (fun j hj => absurd hj (Nat.not_lt_zero j))
    · rw [sR_self] at b
      exact b
    · exact (FW.i (S := S) (k := 3) (v := 0) hI hw).trans ((FW.i (S := sI S w 3 0) (k := 4) (v := 0) (hI.n rfl) hw).trans ((FW.r (S := sI (sI S w 3 0) w 4 0) (f := f) (hI.n rfl) hw (Or.inl rfl)).trans (FW.r (hI.n rfl) hw (Or.inr rfl))))
    · exact FC_I (FC_I hF (by omega)) (by omega)
    · intro j hj
      rw [gA_sRn (by omega), gA_sR, hf j hj]
      exact ⟨rfl, Nat.zero_le _⟩
    · intro j hj
      rw [gA_sR, hf2 j hj]
      exact ⟨rfl, (by decide : 1 ≤ 9)⟩
    · show gI (sI (sI S w 3 0) w 4 0) w 3 = nI 0
      exact (gI_sIk (by decide)).trans gI_sIs
    · show gI (sI (sI S w 3 0) w 4 0) w 4 = nI 0
      exact gI_sIs
theorem r_q22 {X : St} {K : Int32 → St → Prop} (k : ∀ y f, (∀ j, j < 200 → f j = 0) → K y (sR X 5 f)) : ∀ (m i : Nat) (f : Nat → Int32), i + m = 200 → (∀ j, j < i → f j = 0) → wl_X12_quarry_22 K (m + 1) (nI i) (sR X 5 f)
  | 0, i, f, hi, hf => by
    have e : i = 200 := by omega
    subst e
    rw [wl_X12_quarry_22]
    exact d_leT 200 200 (Nat.le_refl _) (k _ f hf)
  | m + 1, i, f, hi, hf => by
    rw [wl_X12_quarry_22, nI_clamp (by omega)]
    refine d_leF 200 i (by omega) ⟨vp_in_nI (by omega) (by decide), nm_e (nm_r (nI_1 i) ?_)⟩
    rw [sA_R, gA_sR, sR_sR]
    refine r_q22 k m (i + 1) _ (by omega) fun j hj => ?_
    by_cases e : j = i
    · subst e
      exact u1_s
    · rw [u1_n e]
      exact hf j (by omega)
theorem r_q44 {X : St} {K : Int32 → St → Prop} (k : ∀ y f, (∀ j, j < 12 → f j = 1) → K y (sR X 6 f)) : ∀ (m i : Nat) (f : Nat → Int32), i + m = 12 → (∀ j, j < i → f j = 1) → wl_X12_quarry_44 K (m + 1) (nI i) (sR X 6 f)
  | 0, i, f, hi, hf => by
    have e : i = 12 := by omega
    subst e
    rw [wl_X12_quarry_44]
    exact d_leT 12 12 (Nat.le_refl _) (k _ f hf)
  | m + 1, i, f, hi, hf => by
    rw [wl_X12_quarry_44, nI_clamp (by omega)]
    refine d_leF 12 i (by omega) ⟨vp_in_nI (by omega) (by decide), nm_e (nm_r (nI_1 i) ?_)⟩
    rw [sA_R, gA_sR, sR_sR]
    refine r_q44 k m (i + 1) _ (by omega) fun j hj => ?_
    by_cases e : j = i
    · subst e
      exact u1_s
    · rw [u1_n e]
      exact hf j (by omega)
theorem r_q110 {X : St} {K : Int32 → St → Prop} (k : ∀ y f, (∀ j, j < 200 → f j = gA X 5 j) → K y (sR X 1 f)) : ∀ (m i : Nat) (f : Nat → Int32), i + m = 200 → (∀ j, j < i → f j = gA X 5 j) → wl_X12_quarry_110 K (m + 1) (nI i) (sR X 1 f)
  | 0, i, f, hi, hf => by
    have e : i = 200 := by omega
    subst e
    rw [wl_X12_quarry_110]
    exact d_leT 200 200 (Nat.le_refl _) (k _ f hf)
  | m + 1, i, f, hi, hf => by
    rw [wl_X12_quarry_110, nI_clamp (by omega)]
    refine d_leF 200 i (by omega) ⟨vp_in_nI (by omega) (by decide), vp_in_nI (by omega) (by decide), nm_e (nm_r (nI_1 i) ?_)⟩
    rw [sA_R, gA_sR, sR_sR, gA_sRn (by decide)]
    refine r_q110 k m (i + 1) _ (by omega) fun j hj => ?_
    by_cases e : j = i
    · subst e
      exact u1_s
    · rw [u1_n e]
      exact hf j (by omega)
theorem r_q137 {X : St} {K : Int32 → St → Prop} (k : ∀ y f, (∀ j, j < 12 → f j = gA X 6 j) → K y (sR X 2 f)) : ∀ (m i : Nat) (f : Nat → Int32), i + m = 12 → (∀ j, j < i → f j = gA X 6 j) → wl_X12_quarry_137 K (m + 1) (nI i) (sR X 2 f)
  | 0, i, f, hi, hf => by
    have e : i = 12 := by omega
    subst e
    rw [wl_X12_quarry_137]
    exact d_leT 12 12 (Nat.le_refl _) (k _ f hf)
  | m + 1, i, f, hi, hf => by
    rw [wl_X12_quarry_137, nI_clamp (by omega)]
    refine d_leF 12 i (by omega) ⟨vp_in_nI (by omega) (by decide), vp_in_nI (by omega) (by decide), nm_e (nm_r (nI_1 i) ?_)⟩
    rw [sA_R, gA_sR, sR_sR, gA_sRn (by decide)]
    refine r_q137 k m (i + 1) _ (by omega) fun j hj => ?_
    by_cases e : j = i
    · subst e
      exact u1_s
    · rw [u1_n e]
      exact hf j (by omega)
theorem r_q183 {X : St} {W : WD} {K : Int32 → St → Prop} {x0 x1 : Int32} (h03 : gI X 0 3 = nI 0) (h13 : gI X 0 13 = nI W.2.2.2.1) (hp : ∀ j, j < W.2.2.2.1 → gA X 7 (3 * j) = nI (W.2.2.2.2 j).1 ∧ gA X 7 (3 * j + 1) = nI (W.2.2.2.2 j).2.1 ∧ gA X 7 (3 * j + 2) = nI (W.2.2.2.2 j).2.2) (hW : WV W) (k : ∀ y r, r 0 = x0 → r 1 = x1 → (∀ j, j < W.2.2.2.1 → RS r (0 + 2 + 19 * j) (wAP W j)) → K y (sR X 3 r)) : ∀ (m i : Nat) (r : Nat → Int32), i + m = W.2.2.2.1 → r 0 = x0 → r 1 = x1 → (∀ j, j < i → RS r (0 + 2 + 19 * j) (wAP W j)) → wl_X12_quarry_183 K (m + 1) (nI i) (sR X 3 r)
  | 0, i, r, hi, e0, e1, hr => by
    have hc := hW.2.1
    rw [wl_X12_quarry_183, show gI (sR X 3 r) 0 13 = nI W.2.2.2.1 from h13]
    exact d_leT W.2.2.2.1 i (by omega) (k _ r e0 e1 (fun j hj => hr j (by omega)))
  | m + 1, i, r, hi, e0, e1, hr => by
    have hc := hW.2.1
    obtain ⟨p1, p2, p3⟩ := hp i (by omega)
    obtain ⟨v1, v2, v3, v4⟩ := hW.2.2 i (by omega)
    have q0 : (3 : Int32) * nI i = nI (3 * i) := pk_mul 3 i
    have q1 : nI (3 * i) + (1 : Int32) = nI (3 * i + 1) := nI_add _ 1
    have q2 : nI (3 * i) + (2 : Int32) = nI (3 * i + 2) := nI_add _ 2
    rw [wl_X12_quarry_183, show gI (sR X 3 r) 0 13 = nI W.2.2.2.1 from h13, gA_sRn (by decide), q0, q1, q2, nI_clamp (by omega), nI_clamp (by omega), nI_clamp (by omega), p1, p2, p3]
    refine d_leF W.2.2.2.1 i (by omega) ⟨vp_in_nI (by omega) (by decide), vp_in_nI (by omega) (by decide), vp_in_nI (by omega) (by decide), ?_⟩
    refine r_makes (T := sR X 3 r) (u := 0) (p := i) (b := 0 + 2 + 19 * i) ⟨h03, rfl, by omega⟩ rfl rfl rfl rfl v3 fun r' hs ho => nm_r (nI_1 i) ?_
    rw [sR_sR]
    rw [gA_sR] at ho
    refine r_q183 h03 h13 hp hW k m (i + 1) r' (by omega) ((ho 0 (by omega)).trans e0) ((ho 1 (by omega)).trans e1) fun j hj => ?_
    by_cases e : j = i
    · subst e
      exact hs
    · refine (hr j (by omega)).out ?_ ho (by omega)
      show (W.2.2.2.2 j).2.1 ≤ 16
      exact (hW.2.2 j (by omega)).2.2.1
theorem r_quarry {T : St} {B : Nat → Nat} {len : Nat} {R : Int32 → St → Prop} (hR : RP B len T) (h03 : gI T 0 3 = nI 0) (k0 : ∀ f T', (aTx B len len (.inr 0) W0).1 = .inl f → RFm T T' → R ((-100 : Int32) - nI f) (sI T' 0 6 0)) (k1 : ∀ p T' f1 f2 r, (aTx B len len (.inr 0) W0).1 = .inr p → RFm T T' → WV (aTx B len len (.inr 0) W0).2 → NR f1 (aTx B len len (.inr 0) W0).2.1 200 99 → NR f2 (aTx B len len (.inr 0) W0).2.2.1 12 9 → RW r 0 (aTx B len len (.inr 0) W0).2.2.2.1 (aTx B len len (.inr 0) W0).2.2.2.2.1 (wAP (aTx B len len (.inr 0) W0).2) → R (nI (aTx B len len (.inr 0) W0).2.2.2.2.1) (sI (sR (sR (sR (sI T' 0 6 0) 1 f1) 2 f2) 3 r) 0 21 0)) : wp_X12_quarry T R := by
  have hl := hR.2.1
  unfold wp_X12_quarry
  refine nm_e (nm_e (nm_e (nm_e ⟨200 + 1, ?_⟩)))
  have m0 : RFm T (sI (sI (sI (sI T 0 9 0) 0 12 1) 0 13 0) 0 14 0) := (RFm_I (by decide)).trans ((RFm_I (by decide)).trans ((RFm_I (by decide)).trans (RFm_I (by decide))))
  have e9 : gI (sI (sI (sI (sI T 0 9 0) 0 12 1) 0 13 0) 0 14 0) 0 9 = nI 0 := (gI_sIk (by decide)).trans ((gI_sIk (by decide)).trans ((gI_sIk (by decide)).trans gI_sIs))
  have e12 : gI (sI (sI (sI (sI T 0 9 0) 0 12 1) 0 13 0) 0 14 0) 0 12 = 1 := (gI_sIk (by decide)).trans ((gI_sIk (by decide)).trans gI_sIs)
  have e13 : gI (sI (sI (sI (sI T 0 9 0) 0 12 1) 0 13 0) 0 14 0) 0 13 = nI 0 := (gI_sIk (by decide)).trans gI_sIs
  have e14 : gI (sI (sI (sI (sI T 0 9 0) 0 12 1) 0 13 0) 0 14 0) 0 14 = nI 0 := gI_sIs
  generalize sI (sI (sI (sI T 0 9 0) 0 12 1) 0 13 0) 0 14 0 = X at m0 e9 e12 e13 e14 ⊢
  generalize hz : aTx B len len (.inr 0) W0 = z at k0 k1
  have fin : ∀ S21 : St, RX T B len S21 z.1 z.2 → ∀ S22 : St, S22 = sI S21 0 6 (0 : Int32) → (((gI S22 0 12) = 0 → R ((-100 : Int32) - (gI S22 0 8)) S22) ∧ (¬ (gI S22 0 12) = 0 → (∃ m_110 : Nat, wl_X12_quarry_110 (fun e1_29 S30 => (∃ m_137 : Nat, wl_X12_quarry_137 (fun e1_36 S37 => (vp_in (0 : Int32) 232 ∧ ∀ S39 : St, S39 = sA S37 3 (0 : Int32).toNatClampNeg (gI S37 0 14) → (vp_in (1 : Int32) 232 ∧ ∀ S41 : St, S41 = sA S39 3 (1 : Int32).toNatClampNeg (gI S39 0 13) → (∃ m_183 : Nat, wl_X12_quarry_183 (fun e1_48 S49 => (∀ S50 : St, S50 = sI S49 0 21 (0 : Int32) → R (gI S50 0 13) S50)) m_183 (0 : Int32) S41)))) m_137 (0 : Int32) S30)) m_110 (0 : Int32) S22))) := by
    intro T1 h1
    refine nm_e ?_
    cases hr : z.1 with
    | inl f =>
      have g := h1.2.1 f hr
      refine br_t ((gI_sIk (by decide)).trans g.2.1) ?_
      rw [gI_sIk (by decide), g.2.2]
      exact k0 f T1 hr h1.1
    | inr p =>
      obtain ⟨g1, g2, g3, ⟨f1, f2, f3, f4, f5, f6⟩⟩ := h1.2.2 p hr
      have hc := f6.2.1
      refine br_f (by rw [gI_sIk (by decide), g2]; decide) ⟨200 + 1, ?_⟩
      have a := r_q110 (X := sI T1 0 6 0) (K := fun _ S30 => (∃ m_137 : Nat, wl_X12_quarry_137 (fun e1_36 S37 => (vp_in (0 : Int32) 232 ∧ ∀ S39 : St, S39 = sA S37 3 (0 : Int32).toNatClampNeg (gI S37 0 14) → (vp_in (1 : Int32) 232 ∧ ∀ S41 : St, S41 = sA S39 3 (1 : Int32).toNatClampNeg (gI S39 0 13) → (∃ m_183 : Nat, wl_X12_quarry_183 (fun e1_48 S49 => (∀ S50 : St, S50 = sI S49 0 21 (0 : Int32) → R (gI S50 0 13) S50)) m_183 (0 : Int32) S41)))) m_137 (0 : Int32) S30)) (fun y v1 hv1 => ⟨12 + 1, ?_⟩) 200 0 (gA (sI T1 0 6 0) 1) (by decide) (fun j hj => absurd hj (Nat.not_lt_zero j))
      · rw [sR_self] at a
        exact a
      have b := r_q137 (X := sR (sI T1 0 6 0) 1 v1) (K := fun _ S37 => (vp_in (0 : Int32) 232 ∧ ∀ S39 : St, S39 = sA S37 3 (0 : Int32).toNatClampNeg (gI S37 0 14) → (vp_in (1 : Int32) 232 ∧ ∀ S41 : St, S41 = sA S39 3 (1 : Int32).toNatClampNeg (gI S39 0 13) → (∃ m_183 : Nat, wl_X12_quarry_183 (fun e1_48 S49 => (∀ S50 : St, S50 = sI S49 0 21 (0 : Int32) → R (gI S50 0 13) S50)) m_183 (0 : Int32) S41)))) (fun y2 v2 hv2 => ⟨i_0 (by decide) (by decide), nm_e ⟨i_1 (by decide) (by decide), nm_e ⟨z.2.2.2.2.1 + 1, ?_⟩⟩⟩) 12 0 (gA (sR (sI T1 0 6 0) 1 v1) 2) (by decide) (fun j hj => absurd hj (Nat.not_lt_zero j))
      · rw [sR_self] at b
        exact b
      rw [e_0, e_1]
      have g14 : gI (sR (sR (sI T1 0 6 0) 1 v1) 2 v2) 0 14 = nI z.2.2.2.1 := (gI_sIk (S := T1) (c := 0) (k := 6) (v := 0) (by decide)).trans f3
      have g13 : gI (sR (sR (sI T1 0 6 0) 1 v1) 2 v2) 0 13 = nI z.2.2.2.2.1 := (gI_sIk (S := T1) (c := 0) (k := 6) (v := 0) (by decide)).trans f4
      have g03 : gI (sR (sR (sI T1 0 6 0) 1 v1) 2 v2) 0 3 = nI 0 := (gI_sIk (S := T1) (c := 0) (k := 6) (v := 0) (by decide)).trans ((h1.1.1 3 (by decide) (by decide) (by decide) (by decide) (by decide) (by decide) (by decide)).trans h03)
      have g7 : gA (sR (sR (sI T1 0 6 0) 1 v1) 2 v2) 7 = gA T1 7 := by
        rw [gA_sRn (by decide), gA_sRn (by decide)]
        rfl
      rw [g14, show gI (sA (sR (sR (sI T1 0 6 0) 1 v1) 2 v2) 3 0 (nI z.2.2.2.1)) 0 13 = nI z.2.2.2.2.1 from g13, sA_R, sA_R, gA_sR, sR_sR]
      refine r_q183 (X := sR (sR (sI T1 0 6 0) 1 v1) 2 v2) (W := z.2) (x0 := nI z.2.2.2.1) (x1 := nI z.2.2.2.2.1) g03 g13 (by rw [g7]; exact f5) f6 (fun y r q0 q1 hrs => nm_e ?_) z.2.2.2.2.1 0 _ (by omega) ?_ u1_s (fun j hj => absurd hj (Nat.not_lt_zero j))
      · rw [show gI (sI (sR (sR (sR (sI T1 0 6 0) 1 v1) 2 v2) 3 r) 0 21 0) 0 13 = nI z.2.2.2.2.1 from (gI_sIk (by decide)).trans g13]
        refine k1 p T1 v1 v2 r hr h1.1 f6 (fun j hj => ?_) (fun j hj => ?_) ⟨q0, q1, hrs⟩
        · rw [hv1 j hj]
          exact f1 j hj
        · rw [hv2 j hj, gA_sRn (by decide)]
          exact f2 j hj
      · rw [u1_n (by decide)]
        exact u1_s
  have c1 := r_q22 (X := X) (K := fun _ S10 => (∃ m_44 : Nat, wl_X12_quarry_44 (fun e1_15 S16 => wp_X12_advance S16 (fun S17 => (∃ m_67 : Nat, wl_X12_quarry_67 (fun S21 => (∀ S22 : St, S22 = sI S21 0 6 (0 : Int32) → (((gI S22 0 12) = 0 → R ((-100 : Int32) - (gI S22 0 8)) S22) ∧ (¬ (gI S22 0 12) = 0 → (∃ m_110 : Nat, wl_X12_quarry_110 (fun e1_29 S30 => (∃ m_137 : Nat, wl_X12_quarry_137 (fun e1_36 S37 => (vp_in (0 : Int32) 232 ∧ ∀ S39 : St, S39 = sA S37 3 (0 : Int32).toNatClampNeg (gI S37 0 14) → (vp_in (1 : Int32) 232 ∧ ∀ S41 : St, S41 = sA S39 3 (1 : Int32).toNatClampNeg (gI S39 0 13) → (∃ m_183 : Nat, wl_X12_quarry_183 (fun e1_48 S49 => (∀ S50 : St, S50 = sI S49 0 21 (0 : Int32) → R (gI S50 0 13) S50)) m_183 (0 : Int32) S41)))) m_137 (0 : Int32) S30)) m_110 (0 : Int32) S22))))) m_67 S17))) m_44 (0 : Int32) S10)) (fun y u1 hu1 => ⟨12 + 1, ?_⟩) 200 0 (gA X 5) (by decide) (fun j hj => absurd hj (Nat.not_lt_zero j))
  · rw [sR_self] at c1
    exact c1
  have c2 := r_q44 (X := sR X 5 u1) (K := fun _ S16 => wp_X12_advance S16 (fun S17 => (∃ m_67 : Nat, wl_X12_quarry_67 (fun S21 => (∀ S22 : St, S22 = sI S21 0 6 (0 : Int32) → (((gI S22 0 12) = 0 → R ((-100 : Int32) - (gI S22 0 8)) S22) ∧ (¬ (gI S22 0 12) = 0 → (∃ m_110 : Nat, wl_X12_quarry_110 (fun e1_29 S30 => (∃ m_137 : Nat, wl_X12_quarry_137 (fun e1_36 S37 => (vp_in (0 : Int32) 232 ∧ ∀ S39 : St, S39 = sA S37 3 (0 : Int32).toNatClampNeg (gI S37 0 14) → (vp_in (1 : Int32) 232 ∧ ∀ S41 : St, S41 = sA S39 3 (1 : Int32).toNatClampNeg (gI S39 0 13) → (∃ m_183 : Nat, wl_X12_quarry_183 (fun e1_48 S49 => (∀ S50 : St, S50 = sI S49 0 21 (0 : Int32) → R (gI S50 0 13) S50)) m_183 (0 : Int32) S41)))) m_137 (0 : Int32) S30)) m_110 (0 : Int32) S22))))) m_67 S17))) (fun y2 u2 hu2 => ?_) 12 0 (gA (sR X 5 u1) 6) (by decide) (fun j hj => absurd hj (Nat.not_lt_zero j))
  · rw [sR_self] at c2
    exact c2
  have m1 : RFm T (sR (sR X 5 u1) 6 u2) := m0.trans ⟨fun _ _ _ _ _ _ _ _ => rfl, fun c hc => by rw [gA_sRn (by omega), gA_sRn (by omega)], rfl⟩
  refine r_adv (RX.rp hR m1) (show gI (sR (sR X 5 u1) 6 u2) 0 9 = nI 0 from e9) (Nat.zero_le _) fun T2 f2 hK => ⟨len + 2, ?_⟩
  have hX : RX T B len T2 (.inr 0) W0 := by
    refine ⟨m1.trans f2.rfm, fun f hf => (by cases hf), fun p hp => ?_⟩
    cases hp
    refine ⟨Nat.zero_le _, (f2.1 12 (by decide) (by decide) (by decide) (by decide)).trans e12, hK, FRW.tf (T := sR (sR X 5 u1) 6 u2) ⟨fun j hj => ?_, fun j hj => ?_, e14, e13, fun j hj => absurd hj (Nat.not_lt_zero j), ⟨Nat.zero_le _, Nat.zero_le _, fun j hj => absurd hj (Nat.not_lt_zero j)⟩⟩ f2⟩
    · rw [gA_sRn (by decide), gA_sR, hu1 j hj]
      exact ⟨rfl, Nat.zero_le _⟩
    · rw [gA_sR, hu2 j hj]
      exact ⟨rfl, (by decide : 1 ≤ 9)⟩
  refine rx_text hR len 0 T2 W0 (by omega) hX fun T3 h3 => fin T3 ?_
  rw [hz] at h3
  exact h3
