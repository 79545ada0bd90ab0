/-! THE REFERENCE READS the text. -/
def RP (B : Nat → Nat) (len : Nat) (T : St) : Prop := gI T 0 6 = nI len ∧ len ≤ 200 ∧ ∀ j, j < len → gA T 4 j = nI (B j) ∧ B j < 256
/-- but for the token's cells the states agree -/
def TF (T T' : St) : Prop := (∀ k, k ≠ 7 → k ≠ 8 → k ≠ 9 → k ≠ 11 → gI T' 0 k = gI T 0 k) ∧ gA T' = gA T ∧ gL T' 13 = gL T 13
def hwd (B : Nat → Nat) (len q : Nat) : Int64 := if lE B len q - q ≤ 8 then lN (hs B q (lE B len q - q)) else -1
def dvl (B : Nat → Nat) (len q : Nat) : Int32 := if dE B len q - q ≤ 2 then nI (nVal B len q) else -1
/-- the token at q -/
def TK (B : Nat → Nat) (len : Nat) (T : St) (q : Nat) : Prop := gI T 0 8 = nI q ∧ ((q = len ∧ gI T 0 7 = nI 0) ∨ (q < len ∧ bl B q = true ∧ gI T 0 7 = nI 1 ∧ gI T 0 9 = nI (lE B len q) ∧ gL T 0 10 = hwd B len q) ∨ (q < len ∧ bd B q = true ∧ gI T 0 7 = nI 2 ∧ gI T 0 9 = nI (dE B len q) ∧ gI T 0 11 = dvl B len q) ∨ (q < len ∧ bl B q = false ∧ bd B q = false ∧ gI T 0 7 = nI 3 ∧ gI T 0 9 = nI (q + 1) ∧ gI T 0 11 = nI (B q)))
theorem gL_sLn {S : St} {c c' k : Nat} {v : Int64} (h : c' ≠ c) : gL (sL S c k v) c' = gL S c' := if_neg h
theorem gL_sLs {S : St} {c k : Nat} {v : Int64} : gL (sL S c k v) c k = v := by
  rw [gL_sL]
  exact u1_s
section RQ
variable {B : Nat → Nat} {len : Nat} {T T' T'' T0 : St} {a q : Nat} {x y : Int32}
theorem TF.refl (T : St) : TF T T := ⟨fun _ _ _ _ _ => rfl, rfl, rfl⟩
theorem TF.trans (h : TF T T') (h' : TF T' T'') : TF T T'' := ⟨fun k a b c d => (h'.1 k a b c d).trans (h.1 k a b c d), h'.2.1.trans h.2.1, h'.2.2.trans h.2.2⟩
theorem TF_I {k : Nat} {v : Int32} (h : k = 7 ∨ k = 8 ∨ k = 9 ∨ k = 11) : TF T (sI T 0 k v) := ⟨fun j a b c d => gI_sIk (by omega), rfl, rfl⟩
theorem TF_L {v : Int64} : TF T (sL T 0 10 v) := ⟨fun _ _ _ _ _ => rfl, rfl, gL_sLn (by decide)⟩
theorem RP.tf (h : RP B len T) (f : TF T T') : RP B len T' := ⟨(f.1 6 (by decide) (by decide) (by decide) (by decide)).trans h.1, h.2.1, by rw [f.2.1]; exact h.2.2⟩
theorem r_byte {Q : Int32 → St → Prop} {j : Nat} (hT : RP B len T) (hx : x = nI j) (hj : j ≤ len) (k1 : j < len → Q (nI (B j)) T) (k0 : j = len → Q (-1) T) : wp_X12_byteAt x T Q := by
  have hl := hT.2.1
  unfold wp_X12_byteAt
  rw [hT.1, hx, nI_clamp (by omega)]
  refine pk_le len j (fun e => k0 (by omega)) (fun e => ⟨vp_in_nI (by omega) (by decide), ?_⟩)
  rw [(hT.2.2 j e).1]
  exact k1 e
theorem r_letter {Q : Int32 → St → Prop} {b : Nat} (hb : b < 256) (k1 : 97 ≤ b → b ≤ 122 → Q 1 T) (k0 : ¬ (97 ≤ b ∧ b ≤ 122) → Q 0 T) : wp_X12_isLetter (nI b) T Q := by
  unfold wp_X12_isLetter
  by_cases h : 97 ≤ b ∧ b ≤ 122
  · exact r_in_t (M := 122) h.1 (by omega) ⟨isB_1, k1 h.1 h.2⟩
  · exact r_in_b (lo := 97) (M := 122) (by unfold OutR; rw [nI_toInt (by omega)]; omega) ⟨isB_0, k0 h⟩
theorem r_digit {Q : Int32 → St → Prop} {b : Nat} (hb : b < 256) (k1 : 48 ≤ b → b ≤ 57 → Q 1 T) (k0 : ¬ (48 ≤ b ∧ b ≤ 57) → Q 0 T) : wp_X12_isDigit (nI b) T Q := by
  unfold wp_X12_isDigit
  by_cases h : 48 ≤ b ∧ b ≤ 57
  · exact r_in_t (M := 57) h.1 (by omega) ⟨isB_1, k1 h.1 h.2⟩
  · exact r_in_b (lo := 48) (M := 57) (by unfold OutR; rw [nI_toInt (by omega)]; omega) ⟨isB_0, k0 h⟩
theorem r_letter_m {Q : Int32 → St → Prop} (k : Q 0 T) : wp_X12_isLetter (-1) T Q := by
  unfold wp_X12_isLetter
  exact r_in_b (lo := 97) (M := 122) (Or.inl (by decide)) ⟨isB_0, k⟩
theorem r_digit_m {Q : Int32 → St → Prop} (k : Q 0 T) : wp_X12_isDigit (-1) T Q := by
  unfold wp_X12_isDigit
  exact r_in_b (lo := 48) (M := 57) (Or.inl (by decide)) ⟨isB_0, k⟩
theorem r_skip_l {K : St → Prop} (hT : RP B len T0) (k : ∀ T', TF T0 T' → gI T' 0 8 = nI q → K T') : ∀ (m a : Nat) (T : St), len - a ≤ m → a ≤ len → TF T0 T → gI T 0 8 = nI a → sk B len a = q → wl_X12_advance_8 K (m + 1) T
  | 0, a, T, h1, h2, h3, h4, h5 => by
    rw [wl_X12_advance_8, h4]
    refine r_byte (hT.tf h3) rfl h2 (fun z => by omega) (fun _ => br_f (by decide) (k T h3 ?_))
    rw [h4, ← h5, show sk B len a = a from en_end (fun z => by omega)]
  | m + 1, a, T, h1, h2, h3, h4, h5 => by
    rw [wl_X12_advance_8, h4]
    refine r_byte (hT.tf h3) rfl h2 (fun z => ?_) (fun _ => br_f (by decide) (k T h3 ?_))
    · have hb := (hT.2.2 a z).2
      refine pk_eq (B a) 32 (fun e => nm_e ?_) (fun e => k T h3 ?_)
      · refine r_skip_l hT k m (a + 1) _ (by omega) (by omega) (h3.trans (TF_I (by decide))) ?_ ?_
        · refine gI_sIs.trans ?_
          rw [h4]
          exact nI_1 a
        · rw [← h5]
          exact (en_go z (decide_eq_true e)).symm
      · rw [h4, ← h5, show sk B len a = a from en_end (bs_f e)]
    · rw [h4, ← h5, show sk B len a = a from en_end (fun z => by omega)]
theorem r_let_x {K : St → Prop} (h : ¬ gI T 0 7 = 1) (k : K T) (m : Nat) : wl_X12_advance_126 K (m + 1) T := by
  rw [wl_X12_advance_126]
  exact br_f h k
theorem r_dig_x {K : St → Prop} (h : ¬ gI T 0 7 = 2) (k : K T) (m : Nat) : wl_X12_advance_207 K (m + 1) T := by
  rw [wl_X12_advance_207]
  exact br_f h k
def hwa (B : Nat → Nat) (q n : Nat) : Int64 := if n ≤ 8 then lN (hs B q n) else -1
theorem r_lets_l {K : St → Prop} (hT : RP B len T0) (k : ∀ T', TF T0 T' → gI T' 0 7 = nI 1 → gI T' 0 8 = nI q → gI T' 0 9 = nI (lE B len q) → gL T' 0 10 = hwd B len q → K T') : ∀ (m a : Nat) (T : St), len - a ≤ m → a ≤ len → q ≤ a → TF T0 T → gI T 0 7 = nI 1 → gI T 0 8 = nI q → gI T 0 9 = nI a → gL T 0 10 = hwa B q (a - q) → lE B len a = lE B len q → wl_X12_advance_126 K (m + 1) T := by
  have out : ∀ (a : Nat) (T : St), TF T0 T → gI T 0 7 = nI 1 → gI T 0 8 = nI q → gI T 0 9 = nI a → gL T 0 10 = hwa B q (a - q) → lE B len a = lE B len q → ¬ (a < len ∧ bl B a = true) → K T := by
    intro a T h3 h4 h5 h6 h7 h8 hn
    have e : lE B len q = a := by
      rw [← h8]
      exact en_end hn
    refine k T h3 h4 h5 (by rw [e]; exact h6) ?_
    unfold hwd
    rw [e]
    exact h7
  intro m
  induction m with
  | zero =>
    intro a T h1 h2 hq h3 h4 h5 h6 h7 h8
    rw [wl_X12_advance_126, h6]
    exact br_t h4 (r_byte (hT.tf h3) rfl h2 (fun z => by omega) (fun _ => r_letter_m (d_0 (out a T h3 h4 h5 h6 h7 h8 (fun z => by omega)))))
  | succ m ih =>
    intro a T h1 h2 hq h3 h4 h5 h6 h7 h8
    rw [wl_X12_advance_126, h6]
    refine br_t h4 (r_byte (hT.tf h3) rfl h2 (fun z => ?_) (fun _ => r_letter_m (d_0 (out a T h3 h4 h5 h6 h7 h8 (fun z => by omega)))))
    have hb := (hT.2.2 a z).2
    have hl := hT.2.1
    refine r_letter hb (fun e1 e2 => d_1 ?_) (fun e => d_0 (out a T h3 h4 h5 h6 h7 h8 (bl_f e)))
    have hgo : lE B len (a + 1) = lE B len q := by
      rw [← h8]
      exact (en_go z (decide_eq_true ⟨e1, e2⟩)).symm
    have hs1 : a + 1 - q = (a - q) + 1 := by omega
    have hqa : q + (a - q) = a := by omega
    have nxt : ∀ w, w = hwa B q (a + 1 - q) → wl_X12_advance_126 K (m + 1) (sI (sL T 0 10 w) 0 9 (gI (sL T 0 10 w) 0 9 + 1)) := by
      intro w hw
      refine ih (a + 1) _ (by omega) (by omega) (by omega) (h3.trans (TF_L.trans (TF_I (by decide)))) ((gI_sIk (by decide)).trans h4) ((gI_sIk (by decide)).trans h5) ?_ ?_ hgo
      · refine gI_sIs.trans ?_
        show gI T 0 9 + 1 = _
        rw [h6]
        exact nI_1 a
      · show gL (sL T 0 10 w) 0 10 = _
        rw [gL_sLs]
        exact hw
    rw [h6, h5, pk_sub hq]
    refine pk_le 8 (a - q) (fun e => nm_e (nm_e (nxt _ ?_))) (fun e => r_byte (hT.tf h3) rfl h2 (fun _ => nm_e (nm_e (nxt _ ?_))) (fun z => by omega))
    · unfold hwa
      rw [if_neg (by omega)]
    · rw [h7]
      unfold hwa
      rw [if_pos (by omega), if_pos (by omega), hs1, hs, hqa, nI_l (by omega)]
      show lN 27 * lN (hs B q (a - q)) + lN (B a) - lN 96 = _
      rw [lN_mul, lN_add, lN_sub (by omega)]
      have e5 : 27 * hs B q (a - q) + B a - 96 = 27 * hs B q (a - q) + (B a - 96) := by omega
      rw [e5]
theorem r_digs_l {K : St → Prop} (hT : RP B len T0) (k : ∀ T', TF T0 T' → gI T' 0 7 = nI 2 → gI T' 0 8 = nI q → gI T' 0 9 = nI (dE B len q) → (q < dE B len q → gI T' 0 11 = dvl B len q) → K T') : ∀ (m a : Nat) (T : St), len - a ≤ m → a ≤ len → q ≤ a → TF T0 T → gI T 0 7 = nI 2 → gI T 0 8 = nI q → gI T 0 9 = nI a → (a = q → gI T 0 11 = 0) → (a = q + 1 → gI T 0 11 = nI (B q - 48)) → (a = q + 2 → gI T 0 11 = nI (10 * (B q - 48) + (B (q + 1) - 48))) → (q + 2 < a → gI T 0 11 = -1) → dE B len a = dE B len q → wl_X12_advance_207 K (m + 1) T := by
  have out : ∀ (a : Nat) (T : St), TF T0 T → gI T 0 7 = nI 2 → gI T 0 8 = nI q → gI T 0 9 = nI a → (a = q → gI T 0 11 = 0) → (a = q + 1 → gI T 0 11 = nI (B q - 48)) → (a = q + 2 → gI T 0 11 = nI (10 * (B q - 48) + (B (q + 1) - 48))) → (q + 2 < a → gI T 0 11 = -1) → dE B len a = dE B len q → ¬ (a < len ∧ bd B a = true) → K T := by
    intro a T h3 h4 h5 h6 g0 g1 g2 g3 h8 hn
    have e : dE B len q = a := by
      rw [← h8]
      exact en_end hn
    refine k T h3 h4 h5 (by rw [e]; exact h6) (fun hlt => ?_)
    unfold dvl nVal
    rw [e] at hlt ⊢
    by_cases c2 : a - q ≤ 2
    · rw [if_pos c2]
      by_cases c1 : a - q = 1
      · rw [if_pos c1]
        exact g1 (by omega)
      · rw [if_neg c1]
        exact g2 (by omega)
    · rw [if_neg c2]
      exact g3 (by omega)
  intro m
  induction m with
  | zero =>
    intro a T h1 h2 hq h3 h4 h5 h6 g0 g1 g2 g3 h8
    rw [wl_X12_advance_207, h6]
    exact br_t h4 (r_byte (hT.tf h3) rfl h2 (fun z => by omega) (fun _ => r_digit_m (d_0 (out a T h3 h4 h5 h6 g0 g1 g2 g3 h8 (fun z => by omega)))))
  | succ m ih =>
    intro a T h1 h2 hq h3 h4 h5 h6 g0 g1 g2 g3 h8
    rw [wl_X12_advance_207, h6]
    refine br_t h4 (r_byte (hT.tf h3) rfl h2 (fun z => ?_) (fun _ => r_digit_m (d_0 (out a T h3 h4 h5 h6 g0 g1 g2 g3 h8 (fun z => by omega)))))
    have hb := (hT.2.2 a z).2
    have hl := hT.2.1
    refine r_digit hb (fun e1 e2 => d_1 ?_) (fun e => d_0 (out a T h3 h4 h5 h6 g0 g1 g2 g3 h8 (bd_f e)))
    have hgo : dE B len (a + 1) = dE B len q := by
      rw [← h8]
      exact (en_go z (decide_eq_true ⟨e1, e2⟩)).symm
    have nxt : ∀ w, (a = q → w = nI (B q - 48)) → (a = q + 1 → w = nI (10 * (B q - 48) + (B (q + 1) - 48))) → (q + 1 < a → w = -1) → wl_X12_advance_207 K (m + 1) (sI (sI T 0 11 w) 0 9 (gI (sI T 0 11 w) 0 9 + 1)) := by
      intro w w0 w1 w2
      have ew : gI (sI (sI T 0 11 w) 0 9 (gI (sI T 0 11 w) 0 9 + 1)) 0 11 = w := (gI_sIk (by decide)).trans gI_sIs
      refine ih (a + 1) _ (by omega) (by omega) (by omega) (h3.trans ((TF_I (by decide)).trans (TF_I (by decide)))) ((gI_sIk (by decide)).trans ((gI_sIk (by decide)).trans h4)) ((gI_sIk (by decide)).trans ((gI_sIk (by decide)).trans h5)) ?_ (fun y => by omega) (fun y => ew.trans (w0 (by omega))) (fun y => ew.trans (w1 (by omega))) (fun y => ew.trans (w2 (by omega))) hgo
      refine gI_sIs.trans ?_
      rw [gI_sIk (by decide), h6]
      exact nI_1 a
    rw [h6, h5, pk_sub hq]
    refine pk_le 2 (a - q) (fun e => nm_e (nm_e (nxt _ (fun y => by omega) (fun y => by omega) (fun _ => rfl)))) (fun e => r_byte (hT.tf h3) rfl h2 (fun _ => nm_e (nm_e (nxt _ (fun y => ?_) (fun y => ?_) (fun y => by omega)))) (fun z => by omega))
    · subst y
      rw [g0 rfl]
      show nI 10 * nI 0 + nI (B a) - nI 48 = _
      rw [pk_mul, nI_add, pk_sub (by omega), Nat.mul_zero, Nat.zero_add]
    · subst y
      rw [g1 rfl]
      show nI 10 * nI (B q - 48) + nI (B (q + 1)) - nI 48 = _
      rw [pk_mul, nI_add, pk_sub (by omega)]
      have e5 : 10 * (B q - 48) + B (q + 1) - 48 = 10 * (B q - 48) + (B (q + 1) - 48) := by omega
      rw [e5]
/-- a token is told: its sort, its word, its value -/
def tkS (T : St) (s v : Int32) : St := sI (sL (sI T 0 7 s) 0 10 0) 0 11 v
theorem tk_7 {s v : Int32} : gI (tkS T s v) 0 7 = s := by
  show gI (sI (sL (sI T 0 7 s) 0 10 0) 0 11 v) 0 7 = s
  rw [gI_sIk (by decide)]
  show gI (sI T 0 7 s) 0 7 = s
  exact gI_sIs
theorem tk_k {k : Nat} {s v : Int32} (h : k ≠ 7) (h2 : k ≠ 11) : gI (tkS T s v) 0 k = gI T 0 k := by
  show gI (sI (sL (sI T 0 7 s) 0 10 0) 0 11 v) 0 k = gI T 0 k
  rw [gI_sIk h2]
  show gI (sI T 0 7 s) 0 k = _
  exact gI_sIk h
theorem tk_11 {s v : Int32} : gI (tkS T s v) 0 11 = v := gI_sIs (S := sL (sI T 0 7 s) 0 10 0)
theorem tk_L {s v : Int32} : gL (tkS T s v) 0 10 = 0 := by
  show gL (sL (sI T 0 7 s) 0 10 0) 0 10 = 0
  exact gL_sLs
theorem tk_F {s v : Int32} : TF T (tkS T s v) := (TF_I (by decide)).trans (TF_L.trans (TF_I (by decide)))
theorem r_83 {Q : St → Prop} {r9 s v : Int32} (h2 : s = 2 → v = 0) (h2' : ¬ s = 2 → v = r9) (k3 : s = 3 → wj_X12_advance_126 Q (sI (tkS T s v) 0 9 (gI T 0 9 + 1))) (k : ¬ s = 3 → wj_X12_advance_126 Q (tkS T s v)) : wj_X12_advance_83 r9 Q s T := by
  have e7 : gI (sL (sI T 0 7 s) 0 10 0) 0 7 = s := by
    show gI (sI T 0 7 s) 0 7 = s
    exact gI_sIs
  have key : wj_X12_advance_105 Q v (sL (sI T 0 7 s) 0 10 0) := by
    unfold wj_X12_advance_105
    refine nm_e ?_
    have e9 : gI (sI (sL (sI T 0 7 s) 0 10 0) 0 11 v) 0 9 = gI T 0 9 := tk_k (T := T) (s := s) (v := v) (by decide) (by decide)
    rw [show gI (sI (sL (sI T 0 7 s) 0 10 0) 0 11 v) 0 7 = s from tk_7 (T := T) (s := s) (v := v), e9]
    exact ⟨fun e => nm_e (k3 e), k⟩
  unfold wj_X12_advance_83
  refine nm_e (nm_e ?_)
  rw [e7]
  refine ⟨fun e => ?_, fun e => ?_⟩
  · rw [h2 e] at key
    exact key
  · rw [h2' e] at key
    exact key
theorem r_adv {Q : St → Prop} (hT : RP B len T) (h9 : gI T 0 9 = nI a) (ha : a ≤ len) (k : ∀ T', TF T T' → TK B len T' (sk B len a) → Q T') : wp_X12_advance T Q := by
  have hl := hT.2.1
  have hs := sk_le (B := B) ha
  unfold wp_X12_advance
  rw [h9]
  refine nm_e ⟨len - a + 1, r_skip_l (T0 := T) (q := sk B len a) hT (fun T2 f2 e8 => ?_) (len - a) a _ (Nat.le_refl _) ha (TF_I (by decide)) gI_sIs rfl⟩
  rw [e8]
  have f3 : TF T (sI T2 0 9 (nI (sk B len a))) := f2.trans (TF_I (by decide))
  have e83 : gI (sI T2 0 9 (nI (sk B len a))) 0 8 = nI (sk B len a) := (gI_sIk (by decide)).trans e8
  have e93 : gI (sI T2 0 9 (nI (sk B len a))) 0 9 = nI (sk B len a) := gI_sIs
  refine nm_e ?_
  generalize sI T2 0 9 (nI (sk B len a)) = T3 at f3 e83 e93 ⊢
  refine r_byte (hT.tf f3) e83 hs (fun hq => ?_) (fun hq => br_f (by decide) ?_)
  · have hb := (hT.2.2 _ hq).2
    refine br_t (nI_pos' (by omega)) (r_letter hb (fun e1 e2 => d_1 ?_) (fun e => d_0 (r_digit hb (fun e1 e2 => d_1 ?_) (fun e' => d_0 ?_))))
    · refine r_83 (v := nI (B (sk B len a))) (fun z => absurd z (by decide)) (fun _ => rfl) (fun z => absurd z (by decide)) (fun _ => ?_)
      unfold wj_X12_advance_126
      refine ⟨len - sk B len a + 1, r_lets_l (T0 := T) (q := sk B len a) hT (fun T5 f5 g7 g8 g9 g10 => ⟨0 + 1, r_dig_x (by rw [g7]; decide) (k T5 f5 ⟨g8, Or.inr (Or.inl ⟨hq, decide_eq_true ⟨e1, e2⟩, g7, g9, g10⟩)⟩) 0⟩) (len - sk B len a) (sk B len a) _ (Nat.le_refl _) hs (Nat.le_refl _) (f3.trans tk_F) tk_7 ((tk_k (by decide) (by decide)).trans e83) ((tk_k (by decide) (by decide)).trans e93) ?_ rfl⟩
      rw [tk_L, Nat.sub_self]
      rfl
    · refine r_83 (v := 0) (fun _ => rfl) (fun z => absurd rfl z) (fun z => absurd z (by decide)) (fun _ => ?_)
      unfold wj_X12_advance_126
      refine ⟨0 + 1, r_let_x (by rw [tk_7]; decide) ⟨len - sk B len a + 1, ?_⟩ 0⟩
      have hlt : sk B len a < dE B len (sk B len a) := by
        have h1 : dE B len (sk B len a) = dE B len (sk B len a + 1) := en_go hq (decide_eq_true ⟨e1, e2⟩)
        have h2 : sk B len a + 1 ≤ dE B len (sk B len a + 1) := en_ge
        omega
      exact r_digs_l (T0 := T) (q := sk B len a) hT (fun T5 f5 g7 g8 g9 g11 => k T5 f5 ⟨g8, Or.inr (Or.inr (Or.inl ⟨hq, decide_eq_true ⟨e1, e2⟩, g7, g9, g11 hlt⟩))⟩) (len - sk B len a) (sk B len a) _ (Nat.le_refl _) hs (Nat.le_refl _) (f3.trans tk_F) tk_7 ((tk_k (by decide) (by decide)).trans e83) ((tk_k (by decide) (by decide)).trans e93) (fun _ => tk_11) (fun y => by omega) (fun y => by omega) (fun y => by omega) rfl
    · refine r_83 (v := nI (B (sk B len a))) (fun z => absurd z (by decide)) (fun _ => rfl) (fun _ => ?_) (fun z => absurd rfl z)
      have g7 : gI (sI (tkS T3 3 (nI (B (sk B len a)))) 0 9 (gI T3 0 9 + 1)) 0 7 = 3 := (gI_sIk (by decide)).trans tk_7
      unfold wj_X12_advance_126
      refine ⟨0 + 1, r_let_x (by rw [g7]; decide) ⟨0 + 1, r_dig_x (by rw [g7]; decide) (k _ (f3.trans (tk_F.trans (TF_I (by decide)))) ⟨(gI_sIk (by decide)).trans ((tk_k (by decide) (by decide)).trans e83), Or.inr (Or.inr (Or.inr ⟨hq, decide_eq_false e, decide_eq_false e', g7, ?_, (gI_sIk (by decide)).trans tk_11⟩))⟩) 0⟩ 0⟩
      refine gI_sIs.trans ?_
      rw [e93]
      exact nI_1 _
  · refine r_83 (v := -1) (fun z => absurd z (by decide)) (fun _ => rfl) (fun z => absurd z (by decide)) (fun _ => ?_)
    unfold wj_X12_advance_126
    exact ⟨0 + 1, r_let_x (by rw [tk_7]; decide) ⟨0 + 1, r_dig_x (by rw [tk_7]; decide) (k _ (f3.trans tk_F) ⟨(tk_k (by decide) (by decide)).trans e83, Or.inl ⟨hq, tk_7⟩⟩) 0⟩ 0⟩
theorem lN_inj {a b : Nat} (ha : a < 2 ^ 63) (hb : b < 2 ^ 63) : lN a = lN b ↔ a = b := by
  rw [← Int64.toInt_inj, show (lN a).toInt = a from Int64.toInt_ofNat_of_lt ha, show (lN b).toInt = b from Int64.toInt_ofNat_of_lt hb]
  omega
theorem lg_cmp_0 (x y : Int64) : lg_cmp x y = 0 ↔ x = y := by
  unfold lg_cmp
  by_cases h : x > y
  · rw [if_pos h]
    refine ⟨fun z => absurd z (by decide), fun z => ?_⟩
    subst z
    exact absurd h (Int64.lt_irrefl)
  · rw [if_neg h]
    by_cases e : x = y
    · rw [if_pos e]
      exact ⟨fun _ => e, fun _ => rfl⟩
    · rw [if_neg e]
      exact ⟨fun z => absurd z (by decide), fun z => absurd z e⟩
theorem txL_1 : ∀ i, i < 11 → 1 ≤ txL i := by decide +kernel
theorem wNum_lt : ∀ i, i < 11 → wNum i < 2 ^ 62 := by decide +kernel
theorem isw_f {i : Nat} (hi : i < 11) (h : ¬ (q < len ∧ bl B q = true)) : isw B len i q = false := by
  have h1 := txL_1 i hi
  have e : lE B len q = q := en_end h
  exact decide_eq_false fun z => by
    have z1 := z.1
    rw [e, Nat.sub_self] at z1
    omega
theorem r_word {Q : Int32 → St → Prop} {i : Nat} {w : Int64} (hK : TK B len T q) (hi : i < 11) (hw : w = lN (wNum i)) (k1 : isw B len i q = true → Q 1 T) (k0 : isw B len i q = false → Q 0 T) : wp_X12_isWord w T Q := by
  unfold wp_X12_isWord
  rcases hK.2 with ⟨h1, h2⟩ | ⟨h1, h2, h3, h4, h5⟩ | ⟨h1, h2, h3, h4, h5⟩ | ⟨h1, h2, h3, h4, h5, h6⟩
  · exact br_f (by rw [h2]; decide) (k0 (isw_f hi (fun z => by omega)))
  · refine br_t h3 ?_
    have hgo : lE B len q = lE B len (q + 1) := en_go h1 h2
    have hge : q + 1 ≤ lE B len (q + 1) := en_ge
    have hiw := isw_hs (B := B) (len := len) (q := q) hi (by omega)
    have hn := wNum_lt i hi
    have hl : ∀ k, k < lE B len q - q → 97 ≤ B (q + k) ∧ B (q + k) ≤ 122 := fun k hk => of_decide_eq_true (en_in (t := bl B) (len := len) (p := q) (j := q + k) (by omega) (by show q + k < lE B len q; omega)).2
    rw [h5, hw, lg_cmp_0]
    unfold hwd
    by_cases h8 : lE B len q - q ≤ 8
    · have hlt := hs_lt _ hl
      have h27 : 27 ^ (lE B len q - q) ≤ 27 ^ 8 := Nat.pow_le_pow_right (by decide) h8
      have h63 : (27 : Nat) ^ 8 < 2 ^ 62 := by decide
      rw [if_pos h8, lN_inj (by omega) (by omega)]
      exact ⟨fun e => k1 (hiw.mpr ⟨h8, e⟩), fun e => k0 (by
        cases hc : isw B len i q with
        | false => rfl
        | true => exact absurd (hiw.mp hc).2 e)⟩
    · rw [if_neg h8]
      refine br_f (fun z => ?_) (k0 (by
        cases hc : isw B len i q with
        | false => rfl
        | true => exact absurd (hiw.mp hc).1 h8))
      have z1 := congrArg Int64.toInt z
      rw [show (lN (wNum i)).toInt = wNum i from Int64.toInt_ofNat_of_lt (by omega), show (-1 : Int64).toInt = -1 from rfl] at z1
      omega
  · refine br_f (by rw [h3]; decide) (k0 (isw_f hi (fun z => ?_)))
    have a1 := of_decide_eq_true z.2
    have a2 := of_decide_eq_true h2
    omega
  · refine br_f (by rw [h4]; decide) (k0 (isw_f hi (fun z => ?_)))
    rw [h2] at z
    exact absurd z.2 (by decide)
theorem r_mark {Q : Int32 → St → Prop} {b : Nat} (hK : TK B len T q) (hB : ∀ j, j < len → B j < 256) (hb : b = 44 ∨ b = 58 ∨ b = 59) (hx : x = nI b) (k1 : q < len → B q = b → Q 1 T) (k0 : ¬ (q < len ∧ B q = b) → Q 0 T) : wp_X12_isMark x T Q := by
  unfold wp_X12_isMark
  rcases hK.2 with ⟨h1, h2⟩ | ⟨h1, h2, h3, h4, h5⟩ | ⟨h1, h2, h3, h4, h5⟩ | ⟨h1, h2, h3, h4, h5, h6⟩
  · exact br_f (by rw [h2]; decide) (k0 (fun z => by omega))
  · refine br_f (by rw [h3]; decide) (k0 (fun z => ?_))
    have a2 := of_decide_eq_true h2
    omega
  · refine br_f (by rw [h3]; decide) (k0 (fun z => ?_))
    have a2 := of_decide_eq_true h2
    omega
  · have := hB q h1
    rw [h6, hx]
    exact br_t h4 (pk_eq (B q) b (fun e => k1 h1 e) (fun e => k0 (fun z => e z.2)))
end RQ
