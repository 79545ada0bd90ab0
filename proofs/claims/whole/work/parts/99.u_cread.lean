/-! THE CLASS READS the text. -/
def TP (B : Nat → Nat) (len : Nat) (S : St) : Prop := gI S 1 1 = nI len ∧ len ≤ 200 ∧ ∀ j, j < len → gA S 2 j = nI (B j) ∧ B j < 256
def sAt (S : St) (a : Nat) : St := sI S 1 2 (nI a)
def sQ (S : St) (a s : Nat) : St := sI (sAt S a) 1 3 (nI s)
section CQ
variable {B : Nat → Nat} {len : Nat} {S : St} {a s a' i q : Nat} {x : Int32}
theorem sAt_st (hx : x = nI a') : sI (sAt S a) 1 2 x = sAt S a' := by
  subst hx
  exact Prod.ext up2_up2 rfl
theorem sAt_self (h : gI S 1 2 = nI a) : sAt S a = S := Prod.ext (up2_self h) rfl
theorem gI_sAt1 : gI (sAt S a) 1 1 = gI S 1 1 := gI_sIk (by decide)
theorem gI_sAt2 : gI (sAt S a) 1 2 = nI a := gI_sIs
theorem gI_sQ1 : gI (sQ S a s) 1 1 = gI S 1 1 := (gI_sIk (by decide)).trans gI_sAt1
theorem gI_sQ2 : gI (sQ S a s) 1 2 = nI a := (gI_sIk (by decide)).trans gI_sAt2
theorem gI_sQ3 : gI (sQ S a s) 1 3 = nI s := gI_sIs
theorem gI_sQ4 : gI (sQ S a s) 1 4 = gI S 1 4 := (gI_sIk (by decide)).trans (gI_sIk (by decide))
theorem sQ_st (hx : x = nI a') : sI (sQ S a s) 1 2 x = sQ S a' s := by
  subst hx
  refine Prod.ext ?_ rfl
  show up2 (up2 (up2 S.1 1 2 (nI a)) 1 3 (nI s)) 1 2 (nI a') = up2 (up2 S.1 1 2 (nI a')) 1 3 (nI s)
  rw [up2_comm (c := 1) (k := 3) (c' := 1) (k' := 2) (Or.inr (by decide)), up2_up2]
theorem TP.sq (h : TP B len S) : TP B len (sQ S a s) := ⟨gI_sQ1.trans h.1, h.2.1, h.2.2⟩
theorem TP.sa (h : TP B len S) : TP B len (sAt S a) := ⟨gI_sAt1.trans h.1, h.2.1, h.2.2⟩
theorem bs_f (h : ¬ B a = 32) : ¬ (a < len ∧ bs B a = true) := fun z => h (of_decide_eq_true z.2)
theorem bd_f (h : ¬ (48 ≤ B a ∧ B a ≤ 57)) : ¬ (a < len ∧ bd B a = true) := fun z => h (of_decide_eq_true z.2)
theorem bl_f (h : ¬ (97 ≤ B a ∧ B a ≤ 122)) : ¬ (a < len ∧ bl B a = true) := fun z => h (of_decide_eq_true z.2)
theorem sk_le (h : a ≤ len) : sk B len a ≤ len := en_le h
theorem sk_ge : a ≤ sk B len a := en_ge
theorem sk_sk : sk B len (sk B len a) = sk B len a := en_en
theorem sk_no (h : sk B len a < len) : ¬ B (sk B len a) = 32 := fun z => en_no ⟨h, decide_eq_true z⟩
theorem c_look_l {K : St → Prop} (hT : TP B len S) : ∀ (m a : Nat), len - a ≤ m → a ≤ len → K (sAt S (sk B len a)) → wl_X4_look_0 K (m + 1) (sAt S a)
  | 0, a, h1, h2, k => by
    have hl := hT.2.1
    rw [wl_X4_look_0, gI_sAt1, gI_sAt2, hT.1]
    rw [show sk B len a = a from en_end (fun z => by omega)] at k
    exact d_leT len a (by omega) k
  | m + 1, a, h1, h2, k => by
    have hl := hT.2.1
    rw [wl_X4_look_0, gI_sAt1, gI_sAt2, hT.1, nI_clamp (by omega)]
    by_cases hla : a < len
    · have hb := hT.2.2 a hla
      have hb2 := hb.2
      rw [show gA (sAt S a) 2 a = nI (B a) from hb.1]
      refine d_leF len a hla ⟨vp_in_nI (by omega) (by decide), pk_eq (B a) 32 (fun e => nm_r (sAt_st (nI_1 a)) ?_) (fun e => ?_)⟩
      · refine c_look_l hT m (a + 1) (by omega) (by omega) ?_
        rw [← show sk B len a = sk B len (a + 1) from en_go hla (decide_eq_true e)]
        exact k
      · rw [show sk B len a = a from en_end (bs_f e)] at k
        exact k
    · rw [show sk B len a = a from en_end (fun z => hla z.1)] at k
      exact d_leT len a (by omega) k
theorem c_look {Q : St → Prop} (hT : TP B len S) (ha : gI S 1 2 = nI a) (hal : a ≤ len) (k : Q (sQ S (sk B len a) (sk B len a))) : wp_X4_look S Q := by
  unfold wp_X4_look
  have := c_look_l (K := fun S5 => ∀ S6 : St, S6 = sI S5 1 3 (gI S5 1 2) → Q S6) hT (len - a) a (Nat.le_refl _) hal (nm_r (by rw [gI_sAt2]; rfl) k)
  rw [sAt_self ha] at this
  exact ⟨_, this⟩
theorem c_fail_f {Q : St → Prop} {f : Nat} (h : gI S 1 4 = nI f) (hf : f < 2 ^ 31) (k : Q S) : wp_X4_fail S Q := by
  unfold wp_X4_fail
  rw [h]
  exact br_t (nI_pos' hf) k
theorem c_fail_o {Q : St → Prop} (h : gI S 1 4 = mI 1) (h3 : gI S 1 3 = nI s) (k : Q (sI S 1 4 (nI s))) : wp_X4_fail S Q := by
  unfold wp_X4_fail
  rw [h, h3]
  exact br_f (mI_nle (by decide) (by decide) 0 (by decide)) (nm_e k)
theorem c_sign {Q : Int32 → St → Prop} {b : Nat} (hT : TP B len S) (ha : gI S 1 2 = nI a) (hal : a ≤ len) (hx : x = nI b) (hb : b < 256) (k1 : sk B len a < len → B (sk B len a) = b → Q 1 (sQ S (sk B len a + 1) (sk B len a))) (k0 : ¬ (sk B len a < len ∧ B (sk B len a) = b) → Q 0 (sQ S (sk B len a) (sk B len a))) : wp_X4_isSign x S Q := by
  have hl := hT.2.1
  have hs := sk_le (B := B) hal
  unfold wp_X4_isSign
  refine c_look hT ha hal ?_
  rw [gI_sQ1, gI_sQ2, hT.1, nI_clamp (by omega), hx]
  refine pk_le len (sk B len a) (fun e => k0 (fun z => by omega)) (fun e => ?_)
  have hB := hT.2.2 _ e
  have hB2 := hB.2
  rw [show gA (sQ S (sk B len a) (sk B len a)) 2 (sk B len a) = nI (B (sk B len a)) from hB.1]
  exact ⟨vp_in_nI (by omega) (by decide), pk_eq (B (sk B len a)) b (fun e2 => nm_r (sQ_st (nI_1 _)) (k1 e e2)) (fun e2 => k0 (fun z => e2 z.2))⟩
theorem c_num_l {K : Int32 → St → Prop} (hT : TP B len S) (hq : q ≤ len) (k : ∀ v, (dE B len q - q = 1 ∨ dE B len q - q = 2 → v = nI (nVal B len q)) → K v (sQ S (dE B len q) s)) : ∀ (m a : Nat) (v : Int32), len - a ≤ m → q ≤ a → a ≤ dE B len q → dE B len a = dE B len q → (a = q → v = 0) → (a = q + 1 → v = nI (B q - 48)) → (a = q + 2 → v = nI (10 * (B q - 48) + (B (q + 1) - 48))) → wl_X4_readNumber_6 K (m + 1) v (sQ S a s) := by
  have hl := hT.2.1
  have hd : dE B len q ≤ len := en_le hq
  have out : ∀ (m a : Nat) (v : Int32), q ≤ a → a ≤ dE B len q → dE B len a = dE B len q → (a = q → v = 0) → (a = q + 1 → v = nI (B q - 48)) → (a = q + 2 → v = nI (10 * (B q - 48) + (B (q + 1) - 48))) → ¬ (a < len ∧ bd B a = true) → K v (sQ S a s) := by
    intro m a v h1 h2 h3 g0 g1 g2 hn
    have e : dE B len q = a := by
      rw [← h3]
      exact en_end hn
    have := k v (fun z => by
      unfold nVal
      rw [e] at z ⊢
      rcases z with z | z
      · rw [if_pos z]
        exact g1 (by omega)
      · rw [if_neg (by omega)]
        exact g2 (by omega))
    rw [e] at this
    exact this
  intro m
  induction m with
  | zero =>
    intro a v hm h1 h2 h3 g0 g1 g2
    rw [wl_X4_readNumber_6, gI_sQ1, gI_sQ2, hT.1]
    exact d_leT len a (by omega) (out 0 a v h1 h2 h3 g0 g1 g2 (fun z => by omega))
  | succ m ih =>
    intro a v hm h1 h2 h3 g0 g1 g2
    rw [wl_X4_readNumber_6, gI_sQ1, gI_sQ2, hT.1, nI_clamp (by omega)]
    refine pk_le len a (fun e => out 0 a v h1 h2 h3 g0 g1 g2 (fun z => by omega)) (fun e => ?_)
    have hB := hT.2.2 a e
    have hB2 := hB.2
    rw [show gA (sQ S a s) 2 a = nI (B a) from hB.1]
    refine ⟨vp_in_nI (by omega) (by decide), pk_lt (B a) 48 (fun e2 => out 0 a v h1 h2 h3 g0 g1 g2 (bd_f (by omega))) (fun e2 => ⟨vp_in_nI (by omega) (by decide), pk_lt 57 (B a) (fun e3 => out 0 a v h1 h2 h3 g0 g1 g2 (bd_f (by omega))) (fun e3 => ⟨vp_in_nI (by omega) (by decide), nm_e (nm_r (sQ_st (nI_1 a)) ?_)⟩)⟩)⟩
    have hgo : dE B len a = dE B len (a + 1) := en_go e (decide_eq_true ⟨e2, e3⟩)
    have hlt : a + 1 ≤ dE B len (a + 1) := en_ge
    refine ih (a + 1) _ (by omega) (by omega) (by omega) (by omega) (fun z => by omega) (fun z => ?_) (fun z => ?_)
    · have ea : a = q := by omega
      subst ea
      rw [g0 rfl]
      show nI 0 * nI 10 + nI (B a) - nI 48 = _
      rw [pk_mul, nI_add, pk_sub (by omega), Nat.zero_mul, Nat.zero_add]
    · have ea : a = q + 1 := by omega
      subst ea
      rw [g1 rfl]
      show nI (B q - 48) * nI 10 + nI (B (q + 1)) - nI 48 = _
      rw [pk_mul, nI_add, pk_sub (by omega)]
      have e5 : (B q - 48) * 10 + B (q + 1) - 48 = 10 * (B q - 48) + (B (q + 1) - 48) := by omega
      rw [e5]
theorem c_num {Q : Int32 → St → Prop} {lo hi : Nat} {y : Int32} (hT : TP B len S) (ha : gI S 1 2 = nI a) (hal : a ≤ len) (hx : x = nI lo) (hy : y = nI hi) (hhi : hi ≤ 1000) (hlo : lo ≤ hi) (k1 : nOk B len lo hi (sk B len a) = true → Q (nI (nVal B len (sk B len a))) (sQ S (dE B len (sk B len a)) (sk B len a))) (k0 : nOk B len lo hi (sk B len a) = false → wp_X4_fail (sQ S (dE B len (sk B len a)) (sk B len a)) (fun S' => Q x S')) : wp_X4_readNumber x y S Q := by
  have hl := hT.2.1
  have hs := sk_le (B := B) hal
  unfold wp_X4_readNumber
  refine c_look hT ha hal ⟨len - sk B len a + 1, ?_⟩
  have hge : sk B len a ≤ dE B len (sk B len a) := en_ge
  have hle : dE B len (sk B len a) ≤ len := en_le hs
  refine c_num_l hT hs (fun v hv => nm_e ?_) (len - sk B len a) (sk B len a) 0 (Nat.le_refl _) (Nat.le_refl _) hge rfl (fun _ => rfl) (fun z => by omega) (fun z => by omega)
  rw [gI_sQ2, gI_sQ3, pk_sub hge]
  have bad : ¬ ((dE B len (sk B len a) - sk B len a = 1 ∨ dE B len (sk B len a) - sk B len a = 2) ∧ lo ≤ nVal B len (sk B len a) ∧ nVal B len (sk B len a) ≤ hi) → wp_X4_fail (sQ S (dE B len (sk B len a)) (sk B len a)) (fun S' => Q x S') := fun z => k0 (decide_eq_false z)
  refine pk_lt (dE B len (sk B len a) - sk B len a) 1 (fun e => bad (fun z => by omega)) (fun e => pk_lt 2 (dE B len (sk B len a) - sk B len a) (fun e2 => bad (fun z => by omega)) (fun e2 => ?_))
  have hn : dE B len (sk B len a) - sk B len a = 1 ∨ dE B len (sk B len a) - sk B len a = 2 := by omega
  have hv2 := hv hn
  have hb1 : B (sk B len a) < 256 := (hT.2.2 _ (by omega)).2
  have hb2 : nVal B len (sk B len a) < 100000 := by
    unfold nVal
    by_cases h1 : dE B len (sk B len a) - sk B len a = 1
    · rw [if_pos h1]
      omega
    · rw [if_neg h1]
      have := (hT.2.2 (sk B len a + 1) (by omega)).2
      omega
  rw [hv2, hx, hy]
  rw [hx] at bad
  exact pk_lt (nVal B len (sk B len a)) lo (fun e3 => bad (fun z => by omega)) (fun e3 => pk_le (nVal B len (sk B len a)) hi (fun e4 => k1 (decide_eq_true ⟨hn, e3, e4⟩)) (fun e4 => bad (fun z => by omega)))
theorem c_wend_l {K : Int32 → St → Prop} (hT : TP B len S) (k : K (nI (lE B len q)) S) : ∀ (m a : Nat), len - a ≤ m → a ≤ len → lE B len a = lE B len q → wl_X4_isWord_9 K (m + 1) (nI a) S
  | 0, a, h1, h2, h3 => by
    have hl := hT.2.1
    rw [wl_X4_isWord_9, hT.1]
    rw [← h3, show lE B len a = a from en_end (fun z => by omega)] at k
    exact d_leT len a (by omega) k
  | m + 1, a, h1, h2, h3 => by
    have hl := hT.2.1
    rw [wl_X4_isWord_9, hT.1, nI_clamp (by omega)]
    have out : ¬ (a < len ∧ bl B a = true) → K (nI a) S := fun hn => by
      rw [← h3, show lE B len a = a from en_end hn] at k
      exact k
    refine pk_le len a (fun e => out (fun z => by omega)) (fun e => ?_)
    have hB := hT.2.2 a e
    have hB2 := hB.2
    rw [hB.1]
    refine ⟨vp_in_nI (by omega) (by decide), pk_lt (B a) 97 (fun e2 => out (bl_f (by omega))) (fun e2 => ⟨vp_in_nI (by omega) (by decide), pk_lt 122 (B a) (fun e3 => out (bl_f (by omega))) (fun e3 => nm_r (nI_1 a) ?_)⟩)⟩
    refine c_wend_l hT k m (a + 1) (by omega) (by omega) ?_
    rw [← h3]
    exact (en_go e (decide_eq_true ⟨e2, e3⟩)).symm
theorem c_wcmp_l {Q : Int32 → St → Prop} {K : Int32 → St → Prop} (hT : TP B len S) (hi : i < 11) (hq : gI S 1 2 = nI q) (hn : q + txL i ≤ len) (k1 : (∀ j, j < txL i → B (q + j) = chN i j) → ∀ y, K y S) (k0 : ¬ (∀ j, j < txL i → B (q + j) = chN i j) → Q 0 S) : ∀ (m c : Nat), c + m = txL i → (∀ j, j < c → B (q + j) = chN i j) → wl_X4_isWord_62 i Q K (m + 1) (nI c) S
  | 0, c, hc, h => by
    have h7 := txL_7 i hi
    rw [wl_X4_isWord_62]
    exact d_leT (txL i) c (by omega) (k1 (fun j hj => h j (by omega)) _)
  | m + 1, c, hc, h => by
    have hl := hT.2.1
    have h7 := txL_7 i hi
    have ht := chN_t i hi c (by omega)
    have hB := hT.2.2 (q + c) (by omega)
    have hB2 := hB.2
    have ht2 := ht.2
    rw [wl_X4_isWord_62, hq, nI_add, nI_clamp (by omega), nI_clamp (by omega), hB.1, ht.1]
    refine d_leF (txL i) c (by omega) ⟨vp_in_nI (by omega) (by decide), vp_in_nI (by omega) (by omega), pk_eq (B (q + c)) (chN i c) (fun e => nm_r (nI_1 c) ?_) (fun e => k0 fun z => e (z c (by omega)))⟩
    refine c_wcmp_l hT hi hq hn k1 k0 m (c + 1) (by omega) fun j hj => ?_
    by_cases ej : j = c
    · subst ej
      exact e
    · exact h j (by omega)
theorem c_word {Q : Int32 → St → Prop} (hT : TP B len S) (ha : gI S 1 2 = nI a) (hal : a ≤ len) (hi : i < 11) (k1 : isw B len i (sk B len a) = true → Q 1 (sQ S (lE B len (sk B len a)) (sk B len a))) (k0 : isw B len i (sk B len a) = false → Q 0 (sQ S (sk B len a) (sk B len a))) : wp_X4_isWord i S Q := by
  have hl := hT.2.1
  have hs := sk_le (B := B) hal
  have h7 := txL_7 i hi
  have hge : sk B len a ≤ lE B len (sk B len a) := en_ge
  have hle : lE B len (sk B len a) ≤ len := en_le hs
  unfold wp_X4_isWord
  refine ⟨hi, c_look hT ha hal (nm_r gI_sQ2 ⟨len - sk B len a + 1, ?_⟩)⟩
  refine c_wend_l (q := sk B len a) hT.sq ?_ (len - sk B len a) (sk B len a) (Nat.le_refl _) hs rfl
  rw [gI_sQ2, pk_sub hge]
  refine pk_eq (lE B len (sk B len a) - sk B len a) (txL i) (fun e => ⟨txL i + 1, ?_⟩) (fun e => k0 (decide_eq_false fun z => e z.1))
  exact c_wcmp_l (q := sk B len a) hT.sq hi gI_sQ2 (by omega) (fun z y => nm_r (sQ_st rfl) (k1 (decide_eq_true ⟨e, z⟩))) (fun z => k0 (decide_eq_false fun y => z y.2)) (txL i) 0 (by omega) (fun j hj => absurd hj (by omega))
end CQ
