/-! THE REFERENCE'S CLAUSES -/
def RFm (T0 T : St) : Prop := (∀ k, k ≠ 7 → k ≠ 8 → k ≠ 9 → k ≠ 11 → k ≠ 12 → k ≠ 13 → k ≠ 14 → gI T 0 k = gI T0 0 k) ∧ (∀ c, c < 5 ∨ 8 < c → gA T c = gA T0 c) ∧ gL T 13 = gL T0 13
def FRW (T : St) (W : WD) : Prop := NR (gA T 5) W.1 200 99 ∧ NR (gA T 6) W.2.1 12 9 ∧ gI T 0 14 = nI W.2.2.1 ∧ gI T 0 13 = nI W.2.2.2.1 ∧ (∀ j, j < W.2.2.2.1 → gA T 7 (3 * j) = nI (W.2.2.2.2 j).1 ∧ gA T 7 (3 * j + 1) = nI (W.2.2.2.2 j).2.1 ∧ gA T 7 (3 * j + 2) = nI (W.2.2.2.2 j).2.2) ∧ WV W
def RX (T0 : St) (B : Nat → Nat) (len : Nat) (T : St) (r : PS) (W : WD) : Prop := RFm T0 T ∧ (∀ f, r = .inl f → f ≤ len ∧ gI T 0 12 = 0 ∧ gI T 0 8 = nI f) ∧ (∀ p, r = .inr p → p ≤ len ∧ gI T 0 12 = 1 ∧ TK B len T (sk B len p) ∧ FRW T W)
theorem RFm.refl (T : St) : RFm T T := ⟨fun _ _ _ _ _ _ _ _ => rfl, fun _ _ => rfl, rfl⟩
theorem RFm.trans {T T' T'' : St} (h : RFm T T') (h' : RFm T' T'') : RFm T T'' := ⟨fun k a b c d e f g => (h'.1 k a b c d e f g).trans (h.1 k a b c d e f g), fun c hc => (h'.2.1 c hc).trans (h.2.1 c hc), h'.2.2.trans h.2.2⟩
theorem RFm_I {T : St} {k : Nat} {v : Int32} (h : k = 7 ∨ k = 8 ∨ k = 9 ∨ k = 11 ∨ k = 12 ∨ k = 13 ∨ k = 14) : RFm T (sI T 0 k v) := ⟨fun j a b c d e f g => gI_sIk (by omega), fun _ _ => rfl, rfl⟩
theorem RFm_A {T : St} {c k : Nat} {v : Int32} (h : 5 ≤ c) (h2 : c ≤ 8) : RFm T (sA T c k v) := ⟨fun _ _ _ _ _ _ _ _ => rfl, fun d hd => gA_sAn (by omega), rfl⟩
theorem TF.rfm {T T' : St} (h : TF T T') : RFm T T' := ⟨fun k a b c d _ _ _ => h.1 k a b c d, fun c _ => by rw [h.2.1], h.2.2⟩
section RX1
variable {T0 T T' : St} {B : Nat → Nat} {len : Nat} {r : PS} {W W' : WD} {p p' f lo hi b i k : Nat} {x y : Int32}
theorem RX.rp (hR : RP B len T0) (h : RFm T0 T) : RP B len T := ⟨(h.1 6 (by decide) (by decide) (by decide) (by decide) (by decide) (by decide) (by decide)).trans hR.1, hR.2.1, by rw [h.2.1 4 (by decide)]; exact hR.2.2⟩
theorem RX.ww (h : RX T0 B len T r W) (e : ∀ p, r = .inr p → W = W') : RX T0 B len T r W' := by
  refine ⟨h.1, h.2.1, fun p hp => ?_⟩
  rw [← e p hp]
  exact h.2.2 p hp
theorem RX.pe {z z' : PS × WD} (h : RX T0 B len T z.1 z.2) (e : PE z z') : RX T0 B len T z'.1 z'.2 := by
  rw [← e.1]
  exact h.ww e.2
theorem TK.k12 {q : Nat} {v : Int32} (h : TK B len T q) : TK B len (sI T 0 12 v) q := by
  unfold TK
  rw [gI_sIk (S := T) (c := 0) (k := 12) (k' := 8) (v := v) (by decide), gI_sIk (S := T) (c := 0) (k := 12) (k' := 7) (v := v) (by decide), gI_sIk (S := T) (c := 0) (k := 12) (k' := 9) (v := v) (by decide), gI_sIk (S := T) (c := 0) (k := 12) (k' := 11) (v := v) (by decide)]
  exact h
theorem FRW.k12 {v : Int32} (h : FRW T W) : FRW (sI T 0 12 v) W := by
  obtain ⟨h1, h2, h3, h4, h5⟩ := h
  exact ⟨h1, h2, (gI_sIk (by decide)).trans h3, (gI_sIk (by decide)).trans h4, h5⟩
theorem FRW.tf (h : FRW T W) (e : TF T T') : FRW T' W := by
  obtain ⟨h1, h2, h3, h4, h5⟩ := h
  refine ⟨by rw [e.2.1]; exact h1, by rw [e.2.1]; exact h2, (e.1 14 (by decide) (by decide) (by decide) (by decide)).trans h3, (e.1 13 (by decide) (by decide) (by decide) (by decide)).trans h4, ?_⟩
  rw [e.2.1]
  exact h5
/-- no more good: at the token that stands there -/
theorem RX.bad (h : RX T0 B len T (.inr p) W) : RX T0 B len (sI T 0 12 0) (.inl (sk B len p)) W' := by
  obtain ⟨g1, g2, g3, g4⟩ := h.2.2 p rfl
  refine ⟨h.1.trans (RFm_I (by decide)), fun f hf => ?_, fun p hp => by cases hp⟩
  cases hf
  exact ⟨sk_le g1, gI_sIs, (gI_sIk (by decide)).trans g3.1⟩
theorem RX.badf (h : RX T0 B len T (.inl f) W) : RX T0 B len (sI T 0 12 0) (.inl f) W' := by
  obtain ⟨g1, g2, g3⟩ := h.2.1 f rfl
  refine ⟨h.1.trans (RFm_I (by decide)), fun f hf => ?_, fun p hp => by cases hp⟩
  cases hf
  exact ⟨g1, gI_sIs, (gI_sIk (by decide)).trans g3⟩
theorem RX.fl (h : RX T0 B len T r W) : RX T0 B len (sI T 0 12 0) (aFl B len r) W' := by
  cases r with
  | inl f => exact h.badf
  | inr p => exact h.bad
theorem RX.ok (h : RX T0 B len T (.inr p) W) : RX T0 B len (sI T 0 12 1) (.inr p) W := by
  obtain ⟨g1, g2, g3, g4⟩ := h.2.2 p rfl
  refine ⟨h.1.trans (RFm_I (by decide)), fun f hf => (by cases hf), fun p hp => ?_⟩
  cases hp
  exact ⟨g1, gI_sIs, g3.k12, g4.k12⟩
theorem rx_adv {Q : St → Prop} (hR : RP B len T0) (h : RX T0 B len T (.inr p) W) (h9 : gI T 0 9 = nI p') (hp' : p' ≤ len) (kk : ∀ T', gA T' = gA T → RX T0 B len T' (.inr p') W → Q T') : wp_X12_advance T Q := by
  obtain ⟨g1, g2, g3, g4⟩ := h.2.2 p rfl
  refine r_adv (RX.rp hR h.1) h9 hp' fun T' f hK => kk T' f.2.1 ⟨h.1.trans f.rfm, fun f hf => (by cases hf), fun p2 hp2 => ?_⟩
  cases hp2
  exact ⟨hp', (f.1 12 (by decide) (by decide) (by decide) (by decide)).trans g2, hK, g4.tf f⟩
theorem rx_good {A C : Prop} (h : RX T0 B len T r W) (k0 : ∀ f, r = .inl f → A) (k1 : ∀ p, r = .inr p → C) : (gI T 0 12 = 0 → A) ∧ (¬ gI T 0 12 = 0 → C) := by
  cases r with
  | inl f => exact br_t (h.2.1 f rfl).2.1 (k0 f rfl)
  | inr p => exact br_f (by rw [(h.2.2 p rfl).2.1]; decide) (k1 p rfl)
theorem rx_num {Q : Int32 → St → Prop} (hR : RP B len T0) (h : RX T0 B len T r W) (hx : x = nI lo) (hy : y = nI hi) (hlh : lo ≤ hi) (hhi : hi ≤ 1000) (kk : ∀ T' v, (∀ p, aN B len lo hi r = .inr p → v = nI (aNv B len r)) → gA T' = gA T → RX T0 B len T' (aN B len lo hi r) W → Q v T') : wp_X12_wantNumber x y T Q := by
  unfold wp_X12_wantNumber
  cases r with
  | inl f => exact nm_e (br_t (h.2.1 f rfl).2.1 (nm_e (br_t gI_sIs (kk _ _ (fun p hp => by cases hp) rfl h.badf))))
  | inr p =>
    obtain ⟨g1, g2, g3, g4⟩ := h.2.2 p rfl
    have hn : ¬ gI T 0 12 = 0 := by
      rw [g2]
      decide
    have no : (sk B len p < len → bd B (sk B len p) = true → False) → aN B len lo hi (.inr p) = .inl (sk B len p) := fun hz => by
      have e : dE B len (sk B len p) = sk B len p := en_end fun z => hz z.1 z.2
      rw [aN]
      refine if_neg fun z => ?_
      have z1 := (of_decide_eq_true z).1
      rw [e, Nat.sub_self] at z1
      omega
    have bad : aN B len lo hi (.inr p) = .inl (sk B len p) → ∀ v T1, T1 = sI T 0 12 0 → ((gI T1 0 12 = 0 → Q v T1) ∧ (¬ gI T1 0 12 = 0 → wp_X12_advance T1 (fun S9 => Q v S9))) := fun e v T1 eT => by
      subst eT
      refine br_t gI_sIs (kk _ _ (fun p' hp => by rw [e] at hp; cases hp) rfl ?_)
      rw [e]
      exact h.bad
    rcases g3.2 with ⟨h1, h2⟩ | ⟨h1, h2, h3, h4, h5⟩ | ⟨h1, h2, h3, h4, h5⟩ | ⟨h1, h2, h3, h4, h5, h6⟩
    · exact nm_e (br_f hn (br_f (by rw [h2]; decide) (bad (no fun z _ => by omega) _)))
    · exact nm_e (br_f hn (br_f (by rw [h3]; decide) (bad (no fun z z2 => by have a1 := of_decide_eq_true h2; have a2 := of_decide_eq_true z2; omega) _)))
    · refine nm_r h5 (br_f hn (br_t h3 ?_))
      have hd1 : sk B len p + 1 ≤ dE B len (sk B len p) := by
        have e1 : dE B len (sk B len p) = dE B len (sk B len p + 1) := en_go h1 h2
        have e2 : sk B len p + 1 ≤ dE B len (sk B len p + 1) := en_ge
        omega
      rw [hx, hy]
      have hV2 : nVal B len (sk B len p) < 100000 := by
        unfold nVal
        by_cases h1 : dE B len (sk B len p) - sk B len p = 1
        · rw [if_pos h1]
          have := (hR.2.2 (sk B len p) (by omega)).2
          omega
        · rw [if_neg h1]
          have a1 := (hR.2.2 (sk B len p) (by omega)).2
          by_cases h7 : sk B len p + 1 < len
          · have a2 := (hR.2.2 (sk B len p + 1) h7).2
            omega
          · have h8 : dE B len (sk B len p) ≤ len := en_le (sk_le g1)
            omega
      by_cases hok : nOk B len lo hi (sk B len p) = true
      · have ev := of_decide_eq_true hok
        have eN : aN B len lo hi (.inr p) = .inr (dE B len (sk B len p)) := if_pos hok
        have eD : dvl B len (sk B len p) = nI (nVal B len (sk B len p)) := if_pos (by omega)
        rw [eD]
        refine r_in_t ev.2.1 (by omega) (d_1 (nm_e (br_f (by rw [show gI (sI T 0 12 1) 0 12 = 1 from gI_sIs]; decide) (rx_adv hR h.ok (p' := dE B len (sk B len p)) ((gI_sIk (by decide)).trans h4) (en_le (sk_le g1)) fun T' eA h' => ?_)))) rfl rfl (by omega)
        refine kk T' _ (fun _ _ => rfl) eA ?_
        rw [eN]
        exact h'
      · have eN : aN B len lo hi (.inr p) = .inl (sk B len p) := if_neg hok
        refine r_in_b (lo := lo) (M := hi) ?_ (d_0 (bad eN _)) rfl rfl (by omega) (by omega)
        unfold dvl
        by_cases c2 : dE B len (sk B len p) - sk B len p ≤ 2
        · rw [if_pos c2]
          unfold OutR
          rw [nI_toInt (by omega)]
          have : ¬ ((dE B len (sk B len p) - sk B len p = 1 ∨ dE B len (sk B len p) - sk B len p = 2) ∧ lo ≤ nVal B len (sk B len p) ∧ nVal B len (sk B len p) ≤ hi) := fun z => hok (decide_eq_true z)
          omega
        · rw [if_neg c2]
          exact Or.inl (by show (-1 : Int) < lo; omega)
    · exact nm_e (br_f hn (br_f (by rw [h4]; decide) (bad (no fun z z2 => by rw [h3] at z2; cases z2) _)))
theorem rx_mk {Q : St → Prop} (hR : RP B len T0) (h : RX T0 B len T r W) (hb : b = 44 ∨ b = 58 ∨ b = 59) (hx : x = nI b) (kk : ∀ T', gA T' = gA T → RX T0 B len T' (aNd B len b r) W → Q T') : wp_X12_wantMark x T Q := by
  unfold wp_X12_wantMark
  cases r with
  | inl f => exact br_t (h.2.1 f rfl).2.1 (nm_e (br_t gI_sIs (kk _ rfl h.badf)))
  | inr p =>
    obtain ⟨g1, g2, g3, g4⟩ := h.2.2 p rfl
    refine br_f (by rw [g2]; decide) (r_mark g3 (fun j hj => (hR.2.2 j hj).2) hb hx (fun e1 e2 => d_1 (nm_e (br_f (by rw [show gI (sI T 0 12 1) 0 12 = 1 from gI_sIs]; decide) ?_))) (fun e => d_0 (nm_e (br_t gI_sIs ?_))))
    · have h9 : gI T 0 9 = nI (sk B len p + 1) := by
        rcases g3.2 with ⟨h1, h2⟩ | ⟨h1, h2, h3, h4, h5⟩ | ⟨h1, h2, h3, h4, h5⟩ | ⟨h1, h2, h3, h4, h5, h6⟩
        · omega
        · have a1 := of_decide_eq_true h2
          omega
        · have a1 := of_decide_eq_true h2
          omega
        · exact h5
      refine rx_adv hR h.ok (p' := sk B len p + 1) ((gI_sIk (by decide)).trans h9) (by omega) fun T' eA h' => kk T' eA ?_
      rw [aNd_t (fun p' hp => by cases hp; exact decide_eq_true ⟨e1, e2⟩)]
      exact h'
    · refine kk _ rfl ?_
      rw [aNd_f (fun p' hp => by cases hp; exact decide_eq_false e)]
      exact h.bad
theorem rx_wadv {Q : St → Prop} (hR : RP B len T0) (h : RX T0 B len T (.inr p) W) (hi : i < 11) (e : aIw B len i (.inr p) = true) (kk : ∀ T', gA T' = gA T → RX T0 B len T' (aWd B len (.inr p)) W → Q T') : wp_X12_advance T Q := by
  obtain ⟨g1, g2, g3, g4⟩ := h.2.2 p rfl
  have ht : ∀ {pp : Prop}, ¬ (sk B len p < len ∧ bl B (sk B len p) = true) → pp := fun z => by
    have e2 := isw_f (B := B) (len := len) hi z
    have e3 : isw B len i (sk B len p) = true := e
    rw [e2] at e3
    cases e3
  have h9 : gI T 0 9 = nI (lE B len (sk B len p)) := by
    rcases g3.2 with ⟨h1, h2⟩ | ⟨h1, h2, h3, h4, h5⟩ | ⟨h1, h2, h3, h4, h5⟩ | ⟨h1, h2, h3, h4, h5, h6⟩
    · exact ht fun z => by omega
    · exact h4
    · exact ht fun z => by
        have a1 := of_decide_eq_true z.2
        have a2 := of_decide_eq_true h2
        omega
    · exact ht fun z => by
        rw [h2] at z
        cases z.2
  exact rx_adv hR h h9 (en_le (sk_le g1)) kk
theorem rx_kind {Q : Int32 → St → Prop} (h : RX T0 B len T (.inr p) W) (k1 : aKd B len (.inr p) < 6 → Q (nI (aKd B len (.inr p))) T) (k0 : ¬ aKd B len (.inr p) < 6 → Q (-1) T) : wp_X12_kindHere T Q := by
  obtain ⟨g1, g2, g3, g4⟩ := h.2.2 p rfl
  unfold wp_X12_kindHere
  unfold aKd at k1 k0
  refine r_word (i := 0) g3 (by decide) rfl (fun e => d_1 ?_) (fun e => d_0 ?_)
  · rw [if_pos (show aIw B len 0 (.inr p) = true from e)] at k1
    exact k1 (by decide)
  rw [if_neg (show ¬ aIw B len 0 (.inr p) = true by rw [show aIw B len 0 (.inr p) = false from e]; decide)] at k1 k0
  refine r_word (i := 1) g3 (by decide) rfl (fun e => d_1 ?_) (fun e => d_0 ?_)
  · rw [if_pos (show aIw B len 1 (.inr p) = true from e)] at k1
    exact k1 (by decide)
  rw [if_neg (show ¬ aIw B len 1 (.inr p) = true by rw [show aIw B len 1 (.inr p) = false from e]; decide)] at k1 k0
  refine r_word (i := 2) g3 (by decide) rfl (fun e => d_1 ?_) (fun e => d_0 ?_)
  · rw [if_pos (show aIw B len 2 (.inr p) = true from e)] at k1
    exact k1 (by decide)
  rw [if_neg (show ¬ aIw B len 2 (.inr p) = true by rw [show aIw B len 2 (.inr p) = false from e]; decide)] at k1 k0
  refine r_word (i := 3) g3 (by decide) rfl (fun e => d_1 ?_) (fun e => d_0 ?_)
  · rw [if_pos (show aIw B len 3 (.inr p) = true from e)] at k1
    exact k1 (by decide)
  rw [if_neg (show ¬ aIw B len 3 (.inr p) = true by rw [show aIw B len 3 (.inr p) = false from e]; decide)] at k1 k0
  refine r_word (i := 4) g3 (by decide) rfl (fun e => d_1 ?_) (fun e => d_0 ?_)
  · rw [if_pos (show aIw B len 4 (.inr p) = true from e)] at k1
    exact k1 (by decide)
  rw [if_neg (show ¬ aIw B len 4 (.inr p) = true by rw [show aIw B len 4 (.inr p) = false from e]; decide)] at k1 k0
  refine r_word (i := 5) g3 (by decide) rfl (fun e => d_1 ?_) (fun e => d_0 ?_)
  · rw [if_pos (show aIw B len 5 (.inr p) = true from e)] at k1
    exact k1 (by decide)
  rw [if_neg (show ¬ aIw B len 5 (.inr p) = true by rw [show aIw B len 5 (.inr p) = false from e]; decide)] at k0
  exact k0 (by decide)
/-! a pane -/
theorem rx_67 {Q : St → Prop} {n pl : Nat} {z u : Int32} (hR : RP B len T0) (h : RX T0 B len T r W) (hk : k < 6) (hx : x = nI k) (hv : ∀ p, r = .inr p → W.2.2.2.1 < 6 ∧ z = nI n ∧ 1 ≤ n ∧ n ≤ 16 ∧ u = nI pl ∧ pl ≤ 4) (kk : ∀ T', RX T0 B len T' (aNd B len 59 r) (wP W (k, n, pl)) → Q T') : wj_X12_wantPane_67 x z Q u T := by
  unfold wj_X12_wantPane_67
  refine rx_mk hR h (b := 59) (by decide) rfl fun T1 eA h1 => rx_good h1 (fun f hf => kk T1 (h1.ww fun p hp => by rw [hf] at hp; cases hp)) (fun p hp => ?_)
  obtain ⟨p1, q1, -⟩ := GP_aNd p hp
  obtain ⟨c6, ez, n1, n16, eu, p4⟩ := hv p1 q1
  obtain ⟨g1, g2, g3, g4⟩ := h1.2.2 p hp
  obtain ⟨f1, f2, f3, f4, f5, f6⟩ := g4
  have e0 : (3 : Int32) * gI T1 0 13 = nI (3 * W.2.2.2.1) := by
    rw [f4]
    exact pk_mul 3 _
  have e1 : (3 : Int32) * gI T1 0 13 + 1 = nI (3 * W.2.2.2.1 + 1) := by
    rw [e0]
    exact nI_add _ 1
  have e2 : (3 : Int32) * gI T1 0 13 + 2 = nI (3 * W.2.2.2.1 + 2) := by
    rw [e0]
    exact nI_add _ 2
  rw [e0, nI_clamp (by omega)]
  refine ⟨vp_in_nI (by omega) (by decide), nm_e ?_⟩
  rw [show gI (sA T1 7 (3 * W.2.2.2.1) x) 0 13 = gI T1 0 13 from rfl, e1, nI_clamp (by omega)]
  refine ⟨vp_in_nI (by omega) (by decide), nm_e ?_⟩
  rw [show gI (sA (sA T1 7 (3 * W.2.2.2.1) x) 7 (3 * W.2.2.2.1 + 1) z) 0 13 = gI T1 0 13 from rfl, e2, nI_clamp (by omega)]
  refine ⟨vp_in_nI (by omega) (by decide), nm_e (nm_e (kk _ ⟨?_, fun f hf => ?_, fun p2 hp2 => ?_⟩))⟩
  · exact h1.1.trans ((RFm_A (by decide) (by decide)).trans ((RFm_A (by decide) (by decide)).trans ((RFm_A (by decide) (by decide)).trans (RFm_I (by decide)))))
  · rw [hf] at hp
    cases hp
  · rw [hp] at hp2
    cases hp2
    refine ⟨g1, (gI_sIk (by decide)).trans g2, ?_, ?_⟩
    · obtain ⟨t1, t2⟩ := g3
      have ee : ∀ j, j ≠ 13 → gI (sI (sA (sA (sA T1 7 (3 * W.2.2.2.1) x) 7 (3 * W.2.2.2.1 + 1) z) 7 (3 * W.2.2.2.1 + 2) u) 0 13 (gI (sA (sA (sA T1 7 (3 * W.2.2.2.1) x) 7 (3 * W.2.2.2.1 + 1) z) 7 (3 * W.2.2.2.1 + 2) u) 0 13 + 1)) 0 j = gI T1 0 j := fun j hj => (gI_sIk hj).trans rfl
      unfold TK
      rw [ee 8 (by decide), ee 7 (by decide), ee 9 (by decide), ee 11 (by decide)]
      exact ⟨t1, t2⟩
    · have e7 : ∀ j, gA (sI (sA (sA (sA T1 7 (3 * W.2.2.2.1) x) 7 (3 * W.2.2.2.1 + 1) z) 7 (3 * W.2.2.2.1 + 2) u) 0 13 (gI (sA (sA (sA T1 7 (3 * W.2.2.2.1) x) 7 (3 * W.2.2.2.1 + 1) z) 7 (3 * W.2.2.2.1 + 2) u) 0 13 + 1)) 7 j = up1 (up1 (up1 (gA T1 7) (3 * W.2.2.2.1) x) (3 * W.2.2.2.1 + 1) z) (3 * W.2.2.2.1 + 2) u j := fun j => by
        show gA (sA (sA (sA T1 7 (3 * W.2.2.2.1) x) 7 (3 * W.2.2.2.1 + 1) z) 7 (3 * W.2.2.2.1 + 2) u) 7 j = _
        rw [gA_sA, gA_sA, gA_sA]
      refine ⟨?_, ?_, (gI_sIk (by decide)).trans f3, ?_, fun j hj => ?_, ⟨f6.1, ?_, fun j hj => ?_⟩⟩
      · show NR (gA (sA (sA (sA T1 7 (3 * W.2.2.2.1) x) 7 (3 * W.2.2.2.1 + 1) z) 7 (3 * W.2.2.2.1 + 2) u) 5) W.1 200 99
        rw [gA_sAn (by decide), gA_sAn (by decide), gA_sAn (by decide)]
        exact f1
      · show NR (gA (sA (sA (sA T1 7 (3 * W.2.2.2.1) x) 7 (3 * W.2.2.2.1 + 1) z) 7 (3 * W.2.2.2.1 + 2) u) 6) W.2.1 12 9
        rw [gA_sAn (by decide), gA_sAn (by decide), gA_sAn (by decide)]
        exact f2
      · refine gI_sIs.trans ?_
        show gI T1 0 13 + 1 = _
        rw [f4]
        exact nI_1 _
      · have hj' : j < W.2.2.2.1 + 1 := hj
        rw [e7, e7, e7]
        show _ = nI (up1 W.2.2.2.2 W.2.2.2.1 (k, n, pl) j).1 ∧ _ = nI (up1 W.2.2.2.2 W.2.2.2.1 (k, n, pl) j).2.1 ∧ _ = nI (up1 W.2.2.2.2 W.2.2.2.1 (k, n, pl) j).2.2
        by_cases e : j = W.2.2.2.1
        · rw [e, u1_s, u1_n (by omega), u1_n (by omega), u1_s, u1_n (by omega), u1_s, u1_s]
          exact ⟨hx, ez, eu⟩
        · rw [u1_n e, u1_n (by omega), u1_n (by omega), u1_n (by omega), u1_n (by omega), u1_n (by omega), u1_n (by omega), u1_n (by omega), u1_n (by omega), u1_n (by omega)]
          exact f5 j (by omega)
      · show W.2.2.2.1 + 1 ≤ 6
        omega
      · have hj' : j < W.2.2.2.1 + 1 := hj
        show (up1 W.2.2.2.2 W.2.2.2.1 (k, n, pl) j).1 < 6 ∧ 1 ≤ (up1 W.2.2.2.2 W.2.2.2.1 (k, n, pl) j).2.1 ∧ (up1 W.2.2.2.2 W.2.2.2.1 (k, n, pl) j).2.1 ≤ 16 ∧ (up1 W.2.2.2.2 W.2.2.2.1 (k, n, pl) j).2.2 ≤ 4
        by_cases e : j = W.2.2.2.1
        · rw [e, u1_s]
          exact ⟨hk, n1, n16, p4⟩
        · rw [u1_n e]
          exact f6.2.2 j (by omega)
theorem aN_v {p : Nat} (e : aN B len lo hi r = .inr p) : lo ≤ aNv B len r ∧ aNv B len r ≤ hi := by
  cases r with
  | inl f => cases e
  | inr q =>
    rw [aN] at e
    by_cases h : nOk B len lo hi (sk B len q) = true
    · exact (of_decide_eq_true h).2
    · rw [if_neg h] at e
      cases e
theorem rx_29 {Q : St → Prop} (hR : RP B len T0) (h : RX T0 B len T r W) (hk : k < 6) (hx : x = nI k) (hc : ∀ p, r = .inr p → W.2.2.2.1 < 6) (kk : ∀ T', RX T0 B len T' (aNd B len 59 (aPn B len k r W).1) (aPn B len k r W).2 → Q T') : wj_X12_wantPane_29 x Q T := by
  unfold wj_X12_wantPane_29
  refine rx_num hR h (lo := 1) (hi := 16) rfl rfl (by decide) (by decide) fun T1 v hv _ h1 => rx_good h1 (fun f hf => ?_) (fun p hp => ?_)
  · refine rx_67 (n := aNv B len r) (pl := 4) hR h1 hk hx (fun p hp => by rw [hf] at hp; cases hp) fun T2 h2 => kk T2 ?_
    have e := aPn_f (k := k) (W := W) (B := B) (len := len) (r := r) (fun p hp => by rw [hf] at hp; cases hp)
    rw [e]
    exact h2
  · obtain ⟨g1, g2, g3, g4⟩ := h1.2.2 p hp
    have hb := aN_v hp
    obtain ⟨p0, q0, -⟩ := GP_aN p hp
    have ev := hv p hp
    have hc6 := hc p0 q0
    refine r_word (i := 6) g3 (by decide) rfl (fun e => d_1 ?_) (fun e => d_0 ?_)
    · have h1' := h1
      rw [hp] at h1'
      refine rx_wadv hR h1' (i := 6) (by decide) e fun T2 _ h2 => rx_num hR h2 (lo := 0) (hi := 3) rfl rfl (by decide) (by decide) fun T3 v2 hv2 _ h3 => ?_
      rw [← hp] at h3
      refine rx_67 (n := aNv B len r) (pl := aNv B len (aWd B len (aN B len 1 16 r))) hR h3 hk hx (fun p3 hp3 => ⟨hc6, ev, hb.1, hb.2, ?_, ?_⟩) fun T4 h4 => kk T4 ?_
      · rw [hp] at hp3 ⊢
        exact hv2 p3 hp3
      · have := (aN_v hp3).2
        omega
      · have hpe := aPn_t (k := k) (W := W) (B := B) (len := len) (r := r) (fun p3 hp3 => by rw [hp] at hp3 ⊢; cases hp3; exact e)
        rw [← hpe.1]
        refine h4.ww fun p4 hp4 => ?_
        obtain ⟨p5, q5, -⟩ := GP_aNd p4 hp4
        exact hpe.2 p5 q5
    · refine rx_67 (n := aNv B len r) (pl := 4) hR h1 hk hx (fun p3 hp3 => ⟨hc6, ev, hb.1, hb.2, rfl, Nat.le_refl _⟩) fun T4 h4 => kk T4 ?_
      have e2 := aPn_f (k := k) (W := W) (B := B) (len := len) (r := r) (fun p3 hp3 => by rw [hp] at hp3 ⊢; cases hp3; exact e)
      rw [e2]
      exact h4
theorem rx_pane {Q : St → Prop} (hR : RP B len T0) (h : RX T0 B len T (.inr p) W) (hi : i < 11) (e : aIw B len i (.inr p) = true) (hk : k < 6) (hx : x = nI k) (kk : ∀ T', RX T0 B len T' (aNd B len 59 (aPf B len k (sk B len p) (aWd B len (.inr p)) W).1) (aPf B len k (sk B len p) (aWd B len (.inr p)) W).2 → Q T') : wp_X12_wantPane x T Q := by
  obtain ⟨g1, g2, g3, g4⟩ := h.2.2 p rfl
  have hc6 := g4.2.2.2.2.2.2.1
  unfold wp_X12_wantPane
  unfold aPf at kk
  rw [g4.2.2.2.1]
  refine pk_le 6 W.2.2.2.1 (fun hc => ?_) (fun hc => ?_)
  · rw [if_pos (by omega)] at kk
    unfold wj_X12_wantPane_15
    refine ⟨isB_0, nm_e (br_t gI_sIs (rx_29 hR (h.bad (W' := W)) hk hx (fun p hp => by cases hp) fun T1 h1 => kk T1 ?_))⟩
    have e2 : (aPn B len k (.inl (sk B len p)) W).1 = .inl (sk B len p) := rfl
    rw [e2] at h1
    exact h1.ww fun p hp => by cases hp
  · rw [if_neg (by omega)] at kk
    unfold wj_X12_wantPane_15
    exact ⟨isB_1, nm_e (br_f (by rw [show gI (sI T 0 12 1) 0 12 = 1 from gI_sIs]; decide) (rx_wadv hR h.ok hi e fun T1 _ h1 => rx_29 hR h1 hk hx (fun _ _ => by omega) kk))⟩
end RX1
