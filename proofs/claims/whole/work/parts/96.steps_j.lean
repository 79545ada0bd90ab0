/-! STEPS: feed, sheet, put, item -/
def bB (a : Int64) (i : Nat) : Int32 := nI (a.toBitVec.toNat / 2 ^ (8 * i) % 256)
theorem by_c (a : Int64) (s : UInt64) (k : Nat) (hs : s.toNat = k) (hk : k < 64) : (((a.toUInt64 >>> s).toInt64).toInt32) &&& (255 : Int32) = nI (a.toBitVec.toNat / 2 ^ k % 256) := by
  have e2 : ((a.toUInt64 >>> s).toInt64).toBitVec.toNat = a.toBitVec.toNat / 2 ^ k := by
    simp only [UInt64.toBitVec_toInt64, UInt64.toBitVec_shiftRight, Int64.toBitVec_toUInt64]
    simp [BitVec.toNat_ushiftRight, Nat.shiftRight_eq_div_pow, hs, Nat.mod_eq_of_lt hk]
  have e3 : (((a.toUInt64 >>> s).toInt64).toInt32).toBitVec.toNat = a.toBitVec.toNat / 2 ^ k % 2 ^ 32 := by
    rw [Int64.toBitVec_toInt32, BitVec.signExtend_eq_setWidth_of_le _ (by decide), BitVec.toNat_setWidth, e2]
  rw [pk_and _ 8 (by decide), e3]
  generalize a.toBitVec.toNat / 2 ^ k = z
  have e4 : z % 2 ^ 32 % 2 ^ 8 = z % 256 := by omega
  rw [e4]
theorem by_r (a s : Int64) (i : Nat) (hi : i < 8) (hs : (s.toBitVec.smod 64).toNat = 8 * i) : ((a >>> s) &&& (255 : Int64)).toInt32 = nI (a.toBitVec.toNat / 2 ^ (8 * i) % 256) := by
  have e1 : (a >>> s).toInt = a.toInt / 2 ^ (8 * i) := by
    have e : (a >>> s).toInt = (a.toBitVec.sshiftRight' (s.toBitVec.smod 64)).toInt := rfl
    rw [e, BitVec.toInt_sshiftRight', hs, Int.shiftRight_eq_div_pow]
    rfl
  have e2 : ((a >>> s) &&& (255 : Int64)).toBitVec.toNat = (a >>> s).toBitVec.toNat % 256 := by
    rw [Int64.toBitVec_and, BitVec.toNat_and]
    exact Nat.and_two_pow_sub_one_eq_mod _ 8
  have e3 : ((a >>> s) &&& (255 : Int64)).toInt32.toBitVec.toNat = (a >>> s).toBitVec.toNat % 256 := by
    rw [Int64.toBitVec_toInt32, BitVec.signExtend_eq_setWidth_of_le _ (by decide), BitVec.toNat_setWidth, e2]
    generalize (a >>> s).toBitVec.toNat = z
    omega
  have e4 : (a >>> s).toBitVec.toNat % 256 = a.toBitVec.toNat / 2 ^ (8 * i) % 256 := by
    have f1 : (a >>> s).toInt = (a >>> s).toBitVec.toInt := rfl
    have f2 : a.toInt = a.toBitVec.toInt := rfl
    rw [f1, f2, BitVec.toInt_eq_toNat_cond, BitVec.toInt_eq_toNat_cond] at e1
    have b1 := (a >>> s).toBitVec.isLt
    have b2 := a.toBitVec.isLt
    generalize (a >>> s).toBitVec.toNat = Y at e1 b1 ⊢
    generalize a.toBitVec.toNat = A at e1 b2 ⊢
    have hi8 : i = 0 ∨ i = 1 ∨ i = 2 ∨ i = 3 ∨ i = 4 ∨ i = 5 ∨ i = 6 ∨ i = 7 := by omega
    rcases hi8 with rfl | rfl | rfl | rfl | rfl | rfl | rfl | rfl <;> (simp only [Nat.reduceMul, Nat.reducePow, Int.reducePow] at e1 b1 b2 ⊢; split at e1 <;> split at e1 <;> omega)
  apply Int32.toBitVec_inj.mp
  apply BitVec.eq_of_toNat_eq
  rw [e3, e4, pk_tn (Nat.lt_of_lt_of_le (Nat.mod_lt _ (by decide)) (by decide))]
theorem sh_c : ∀ i, i < 8 → (((8 : Int32) * nI i).toInt64.toUInt64 &&& Int64.toUInt64 63).toNat = 8 * i := by decide +kernel
theorem sh_r : ∀ i, i < 8 → ((((8 : Int32) * nI i).toInt64 &&& 63).toBitVec.smod 64).toNat = 8 * i := by decide +kernel
def sTp (S : St) (f : Nat → Int32) (m : Nat) : St := sI (sR S 2 f) 1 1 (nI m)
def sTq (T : St) (f : Nat → Int32) (m : Nat) : St := sI (sR T 4 f) 0 6 (nI m)
section TP
variable {S T : St} {f : Nat → Int32} {m c k : Nat} {v x : Int32}
theorem gA_sTp (h : c ≠ 2) : gA (sTp S f m) c = gA S c := by
  show gA (sR S 2 f) c = _
  exact gA_sRn h
theorem gA_sTp2 : gA (sTp S f m) 2 = f := by
  show gA (sR S 2 f) 2 = _
  exact gA_sR _ _ _
theorem gI_sTp (h : c ≠ 1) : gI (sTp S f m) c = gI S c := by
  show gI (sI (sR S 2 f) 1 1 (nI m)) c = gI (sR S 2 f) c
  exact gI_sIn h
theorem gI_sTp1 : gI (sTp S f m) 1 1 = nI m := gI_sIs (S := sR S 2 f)
theorem gA_sTq (h : c ≠ 4) : gA (sTq T f m) c = gA T c := by
  show gA (sR T 4 f) c = _
  exact gA_sRn h
theorem gA_sTq4 : gA (sTq T f m) 4 = f := by
  show gA (sR T 4 f) 4 = _
  exact gA_sR _ _ _
theorem gI_sTq (h : k ≠ 6) : gI (sTq T f m) 0 k = gI T 0 k := by
  show gI (sI (sR T 4 f) 0 6 (nI m)) 0 k = gI (sR T 4 f) 0 k
  exact gI_sIk h
theorem gI_sTq6 : gI (sTq T f m) 0 6 = nI m := gI_sIs (S := sR T 4 f)
theorem sTp_st (hx : x = nI (m + 1)) : sI (sA (sTp S f m) 2 m v) 1 1 x = sTp S (up1 f m v) (m + 1) := by
  subst hx
  refine Prod.ext up2_up2 (Prod.ext ?_ rfl)
  funext d
  show (if d = 2 then up1 (if 2 = 2 then f else S.2.1 2) m v else if d = 2 then f else S.2.1 d) = if d = 2 then up1 f m v else S.2.1 d
  rw [if_pos rfl]
  by_cases h : d = 2
  · rw [if_pos h, if_pos h]
  · rw [if_neg h, if_neg h, if_neg h]
theorem sTq_st (hx : x = nI (m + 1)) : sI (sA (sTq T f m) 4 m v) 0 6 x = sTq T (up1 f m v) (m + 1) := by
  subst hx
  refine Prod.ext up2_up2 (Prod.ext ?_ rfl)
  funext d
  show (if d = 4 then up1 (if 4 = 4 then f else T.2.1 4) m v else if d = 4 then f else T.2.1 d) = if d = 4 then up1 f m v else T.2.1 d
  rw [if_pos rfl]
  by_cases h : d = 4
  · rw [if_pos h, if_pos h]
  · rw [if_neg h, if_neg h, if_neg h]
theorem sTp_self (h : gI S 1 1 = nI m) : sTp S (gA S 2) m = S := by
  have e : sI S 1 1 (nI m) = S := Prod.ext (up2_self h) rfl
  unfold sTp
  rw [sR_self]
  exact e
theorem sTq_self (h : gI T 0 6 = nI m) : sTq T (gA T 4) m = T := by
  have e : sI T 0 6 (nI m) = T := Prod.ext (up2_self h) rfl
  unfold sTq
  rw [sR_self]
  exact e
end TP
theorem c_take_l {S : St} {a : Int64} {x : Int32} {k n : Nat} {f0 : Nat → Int32} {K : Int32 → St → Prop} (hx : x = nI n) (hn : n ≤ 8) (hk : k + n ≤ 200) (kk : ∀ y f, (∀ j, j < k → f j = f0 j) → (∀ j, j < n → f (k + j) = bB a j) → K y (sTp S f (k + n))) : ∀ (m i : Nat) (f : Nat → Int32), i + m = n → (∀ j, j < k → f j = f0 j) → (∀ j, j < i → f (k + j) = bB a j) → wl_X4_take_3 a x K (m + 1) (nI i) (sTp S f (k + i))
  | 0, i, f, hi, h1, h2 => by
    have e : n = i := by omega
    subst e
    rw [wl_X4_take_3]
    exact d_leT n n (Nat.le_refl _) (kk _ f h1 h2) hx
  | m + 1, i, f, hi, h1, h2 => by
    rw [wl_X4_take_3, show gI (sTp S f (k + i)) 1 1 = nI (k + i) from gI_sTp1, nI_clamp (by omega)]
    refine d_leF n i (by omega) ⟨vp_in_nI (by omega) (by decide), nm_e (nm_r (sTp_st (m := k + i) ?_) (nm_r (nI_1 i) ?_))⟩ hx
    · show gI (sTp S f (k + i)) 1 1 + 1 = _
      rw [show gI (sTp S f (k + i)) 1 1 = nI (k + i) from gI_sTp1]
      exact nI_1 _
    · rw [Nat.add_assoc]
      refine c_take_l hx hn hk kk m (i + 1) _ (by omega) (fun j hj => ?_) (fun j hj => ?_)
      · rw [u1_n (by omega)]
        exact h1 j hj
      · by_cases e : j = i
        · subst e
          rw [u1_s]
          exact by_c a _ (8 * j) (sh_c j (by omega)) (by omega)
        · rw [u1_n (by omega)]
          exact h2 j (by omega)
theorem c_take {S : St} {a : Int64} {x : Int32} {k n : Nat} {Q : St → Prop} (hk1 : gI S 1 1 = nI k) (hx : x = nI n) (hn : n ≤ 8) (hk : k + n ≤ 200) (kk : ∀ f, (∀ j, j < k → f j = gA S 2 j) → (∀ j, j < n → f (k + j) = bB a j) → Q (sTp S f (k + n))) : wp_X4_take a x S Q := by
  unfold wp_X4_take
  have := c_take_l (S := S) (a := a) (f0 := gA S 2) (K := fun _ S' => Q S') hx hn hk (fun _ f => kk f) n 0 (gA S 2) (by omega) (fun _ _ => rfl) (fun j hj => absurd hj (by omega))
  rw [Nat.add_zero k, sTp_self hk1] at this
  exact ⟨n + 1, this⟩
theorem r_take_l {T : St} {a : Int64} {x : Int32} {k n : Nat} {f0 : Nat → Int32} {K : Int32 → St → Prop} (hx : x = nI n) (hn : n ≤ 8) (hk : k + n ≤ 200) (kk : ∀ y f, (∀ j, j < k → f j = f0 j) → (∀ j, j < n → f (k + j) = bB a j) → K y (sTq T f (k + n))) : ∀ (m i : Nat) (f : Nat → Int32), i + m = n → (∀ j, j < k → f j = f0 j) → (∀ j, j < i → f (k + j) = bB a j) → wl_X12_feed_30 a x K (m + 1) (nI i) (sTq T f (k + i))
  | 0, i, f, hi, h1, h2 => by
    have e : n = i := by omega
    subst e
    rw [wl_X12_feed_30]
    exact d_leT n n (Nat.le_refl _) (kk _ f h1 h2) hx
  | m + 1, i, f, hi, h1, h2 => by
    rw [wl_X12_feed_30, show gI (sTq T f (k + i)) 0 6 = nI (k + i) from gI_sTq6, nI_clamp (by omega)]
    refine d_leF n i (by omega) ⟨vp_in_nI (by omega) (by decide), nm_e (nm_r (sTq_st (m := k + i) ?_) (nm_r (nI_1 i) ?_))⟩ hx
    · show gI (sTq T f (k + i)) 0 6 + 1 = _
      rw [show gI (sTq T f (k + i)) 0 6 = nI (k + i) from gI_sTq6]
      exact nI_1 _
    · rw [Nat.add_assoc]
      refine r_take_l hx hn hk kk m (i + 1) _ (by omega) (fun j hj => ?_) (fun j hj => ?_)
      · rw [u1_n (by omega)]
        exact h1 j hj
      · by_cases e : j = i
        · subst e
          rw [u1_s]
          exact by_r a _ j (by omega) (sh_r j (by omega))
        · rw [u1_n (by omega)]
          exact h2 j (by omega)
theorem Rel.feed {n : List Nat} {S T : St} {m : Nat} {f g : Nat → Int32} (h : Rel n S T) (hm : m ≤ 200) (hfg : ∀ j, j < m → f j = g j ∧ ∃ x : Nat, x < 256 ∧ g j = nI x) : Rel n (sTp S f m) (sTq T g m) := by
  obtain ⟨o1, o2, o3, o4, o5⟩ := h.2.2.2.2.2
  have hd : DY n n S (sTp S f m) := DY.same fun c hc => ⟨gI_sTp (by omega), gA_sTp (by omega), rfl⟩
  refine h.side ⟨fun c h1 h2 => ⟨gI_sTp (by omega), gA_sTp (by omega)⟩, fun _ _ _ => rfl, rfl⟩ ⟨gI_sTq (by decide), gI_sTq (by decide), gA_sTq (by decide), gA_sTq (by decide), gA_sTq (by decide)⟩ (by rw [gI_sTp (by decide)]) (gI_sTq (by decide)) (gA_sTq (by decide)) ⟨⟨m, hm, gI_sTp1, gI_sTq6, ?_⟩, o2.of2 (by rw [gI_sTp (by decide)]) (gA_sTp (by decide)) (gI_sTq (by decide)) (gA_sTq (by decide)), o3.dy rfl hd (gA_sTq (by decide)) (gA_sTq (by decide)) rfl, o4.dy (gA_sTp (by decide)) rfl hd (gA_sTq (by decide)) (gA_sTq (by decide)) (gA_sTq (by decide)), o5.of2 (by rw [gI_sTp (by decide)]) (gA_sTp (by decide)) (gI_sTq (by decide)) (gA_sTq (by decide))⟩
  rw [gA_sTp2, gA_sTq4]
  exact hfg
theorem st_feed : step_feed Rel := by
  intro n S T a1 a2 hn h
  have hw := h.1.w
  have h0 := h.2.2.1
  obtain ⟨V, L, t, c, p, hC⟩ := h.2.2.2.1
  have hc3 : gI S (gN S 0 8) 3 = nI c := hC.1.2.2.1
  have ht4 : gI S (gN S 0 8) 4 = nI t := hC.1.2.2.2.1
  have hc6 : c ≤ 6 := hC.2.1.2.1
  have ht5 : t ≤ 50 := hC.2.1.1
  have hr1 : gA T 3 1 = nI c := hC.2.2.2.2.1.2.1
  have hr0 : gA T 3 0 = nI t := hC.2.2.2.2.1.1
  unfold wp_X11_feed
  obtain ⟨k, hk, hk1, hk2, hk3⟩ := h.2.2.2.2.2.1
  rw [hk1]
  rcases rng a2 1 9 (by omega) with b | ⟨j2, g2, h2, rfl⟩
  · refine g2_b (M := 8) b ?_
    unfold wp_X12_feed
    exact r_in_b (lo := 1) (M := 8) b (d_0 ⟨rfl, h⟩)
  · refine g2_t (M := 8) g2 h2 ?_
    rw [nI_add]
    refine pk_le (k + j2) 200 (fun e => c_take hk1 rfl (by omega) e fun f f1 f2 => ?_) (fun e => ?_)
    · rw [show gI (sTp S f (k + j2)) 1 1 = nI (k + j2) from gI_sTp1]
      unfold wp_X12_feed
      refine r_in_t (M := 8) g2 h2 (d_1 ?_)
      rw [hk2, nI_add]
      refine d_leT (k + j2) 200 e ⟨j2 + 1, ?_⟩
      have := r_take_l (T := T) (a := a1) (x := nI j2) (n := j2) (k := k) (f0 := gA T 4) (K := fun _ T' => nI (k + j2) = gI T' 0 6 ∧ Rel n (sTp S f (k + j2)) T') rfl (by omega) e (fun y g r1 r2 => ⟨gI_sTq6.symm, h.feed e fun j hj => ?_⟩) j2 0 (gA T 4) (by omega) (fun _ _ => rfl) (fun j hj => absurd hj (by omega))
      · rw [Nat.add_zero k, sTq_self hk2] at this
        exact this
      · by_cases hl : j < k
        · rw [f1 j hl, r1 j hl]
          exact hk3 j hl
        · have e3 : j = k + (j - k) := by omega
          rw [e3, f2 _ (by omega), r2 _ (by omega)]
          exact ⟨rfl, _, Nat.mod_lt _ (by decide), rfl⟩
    · unfold wp_X12_feed

      refine r_in_t (M := 8) g2 h2 (d_1 ?_)
      rw [hk2, nI_add]
      exact d_leF (k + j2) 200 (by omega) ⟨rfl, h⟩
/-! sheets -/
def sG (T : St) (g : Nat → Int64) : St := (T.1, T.2.1, T.2.2.1, upr T.2.2.2 13 g)
theorem gL_sG {T : St} {g : Nat → Int64} : gL (sG T g) 13 = g := by
  show (if 13 = 13 then g else T.2.2.2 13) = g
  exact if_pos rfl
theorem sL_sG {T : St} {g : Nat → Int64} {k : Nat} {v : Int64} : sL (sG T g) 13 k v = sG T (up1 g k v) := by
  refine Prod.ext rfl (Prod.ext rfl (Prod.ext rfl ?_))
  funext d
  show (if d = 13 then up1 (if 13 = 13 then g else T.2.2.2 13) k v else if d = 13 then g else T.2.2.2 d) = if d = 13 then up1 g k v else T.2.2.2 d
  rw [if_pos rfl]
  by_cases h : d = 13
  · rw [if_pos h, if_pos h]
  · rw [if_neg h, if_neg h, if_neg h]
theorem sG_self {T : St} : sG T (gL T 13) = T := by
  refine Prod.ext rfl (Prod.ext rfl (Prod.ext rfl ?_))
  funext d
  show (if d = 13 then gL T 13 else T.2.2.2 d) = T.2.2.2 d
  by_cases h : d = 13
  · subst h
    exact if_pos rfl
  · exact if_neg h
theorem r_sheet_l {T : St} {s : Nat} {x : Int32} {K : Int32 → St → Prop} {g0 : Nat → Int64} (hx : x = nI s) (hs : s < 4) (k : ∀ y g, (∀ j, g j = if 40 * s ≤ j ∧ j < 40 * s + 40 then 0 else g0 j) → K y (sG T g)) : ∀ (m i : Nat) (g : Nat → Int64), i + m = 40 → (∀ j, g j = if 40 * s ≤ j ∧ j < 40 * s + i then 0 else g0 j) → wl_X12_sheet_64 x K (m + 1) (nI i) (sG T g)
  | 0, i, g, hi, hg => by
    have e : i = 40 := by omega
    subst e
    rw [wl_X12_sheet_64]
    exact d_leT 40 40 (Nat.le_refl _) (k _ g hg)
  | m + 1, i, g, hi, hg => by
    have e : (40 : Int32) * x + nI i = nI (40 * s + i) := by
      rw [hx]
      show nI 40 * nI s + nI i = _
      rw [pk_mul, nI_add]
    rw [wl_X12_sheet_64, e, nI_clamp (by omega)]
    refine d_leF 40 i (by omega) ⟨vp_in_nI (by omega) (by decide), nm_r sL_sG (nm_r (nI_1 i) ?_)⟩
    refine r_sheet_l hx hs k m (i + 1) _ (by omega) fun j => ?_
    by_cases e2 : j = 40 * s + i
    · subst e2
      rw [u1_s, if_pos (by omega)]
    · rw [u1_n e2, hg j]
      by_cases e3 : 40 * s ≤ j ∧ j < 40 * s + i
      · rw [if_pos e3, if_pos (by omega)]
      · rw [if_neg e3, if_neg (by omega)]
theorem r_sheet_60 {T : St} {s : Nat} {x : Int32} {R : Int32 → St → Prop} (hs : s < 4) (k : ∀ g, (∀ j, g j = if 40 * s ≤ j ∧ j < 40 * s + 40 then 0 else gL T 13 j) → R 1 (sG (sA T 12 s x) g)) : wj_X12_sheet_60 (nI s) R x (nI s) T := by
  unfold wj_X12_sheet_60
  rw [nI_clamp (by omega)]
  refine ⟨vp_in_nI (by omega) (by decide), nm_e ⟨40 + 1, ?_⟩⟩
  have := r_sheet_l (T := sA T 12 s x) (x := nI s) (K := fun _ S => R 1 S) (g0 := gL T 13) rfl hs (fun _ g => k g) 40 0 (gL T 13) (by decide) (fun j => (if_neg (by omega)).symm)
  rw [show sG (sA T 12 s x) (gL T 13) = sA T 12 s x from sG_self (T := sA T 12 s x)] at this
  exact this
theorem Rel.sheets {n n' : List Nat} {S S' T : St} {s v : Nat} {x y : Int32} {g : Nat → Int64} (h : Rel n S T) (hs : s < 4) (hI : ∀ c, c < 59 → gI S' c = gI S c ∧ gA S' c = gA S c) (hN : ∀ c, c < 59 → c ≠ 4 → gN S' c = gN S c) (h4 : gN S' 4 = up1 (gN S 4) s v) (hd : DY n n' S S') (hg : ∀ j, g j = if 40 * s ≤ j ∧ j < 40 * s + 40 then 0 else gL T 13 j) (ha : (v = 0 ∧ x = mI 1) ∨ (¬ v = 0 ∧ SHok n' S' v ∧ ∃ so k : Nat, SHas S' v so k ∧ x = nI so ∧ y = nI k ∧ ∀ j, j < k → (0 : Int64) = (gA S' (gN S' v 1) j).toInt64)) (hu : ¬ v = 0 → gN S' v 1 ∉ n) : Rel n' S' (sG (sA (sA T 11 s x) 12 s y) g) := by
  obtain ⟨o1, o2, o3, o4, o5⟩ := h.2.2.2.2.2
  have eA : ∀ c, c ≠ 11 → c ≠ 12 → gA (sG (sA (sA T 11 s x) 12 s y) g) c = gA T c := by
    intro c h1 h2
    show gA (sA (sA T 11 s x) 12 s y) c = _
    rw [gA_sAn h2, gA_sAn h1]
  have e11 : gA (sG (sA (sA T 11 s x) 12 s y) g) 11 = up1 (gA T 11) s x := by
    show gA (sA (sA T 11 s x) 12 s y) 11 = _
    rw [gA_sAn (by decide), gA_sA]
  have e12 : gA (sG (sA (sA T 11 s x) 12 s y) g) 12 = up1 (gA T 12) s y := by
    show gA (sA (sA T 11 s x) 12 s y) 12 = _
    rw [gA_sA, gA_sAn (by decide)]
  have e13 : gL (sG (sA (sA T 11 s x) 12 s y) g) 13 = g := gL_sG
  refine h.side ⟨fun c _ h2 => hI c h2, fun c h1 h2 => hN c (by omega) (by omega), hN 0 (by decide) (by decide)⟩ ⟨rfl, rfl, eA 1 (by decide) (by decide), eA 2 (by decide) (by decide), eA 3 (by decide) (by decide)⟩ (by rw [(hI 0 (by decide)).1]) rfl (eA 18 (by decide) (by decide)) ⟨o1.of2 (by rw [(hI 1 (by decide)).1]) (hI 2 (by decide)).2 rfl (eA 4 (by decide) (by decide)), o2.of2 (by rw [(hI 0 (by decide)).1]) (hI 3 (by decide)).2 rfl (eA 9 (by decide) (by decide)), ?_, o4.dy (hI 5 (by decide)).2 (hN 6 (by decide) (by decide)) hd (eA 14 (by decide) (by decide)) (eA 15 (by decide) (by decide)) (eA 16 (by decide) (by decide)), o5.of2 (by rw [(hI 7 (by decide)).1]) (hI 8 (by decide)).2 rfl (eA 17 (by decide) (by decide))⟩
  unfold RSheets
  rw [h4, e11, e12, e13]
  refine ⟨fun s' hs' => ?_, fun s1 s2 hs1 hs2 n1 n2 e => ?_⟩
  · by_cases es : s' = s
    · subst es
      rw [u1_s, u1_s, u1_s]
      rcases ha with ⟨a1, a2⟩ | ⟨a1, a2, so, k, a3, a4, a5, a6⟩
      · exact Or.inl ⟨a1, a2⟩
      · refine Or.inr ⟨a1, a2, so, k, a3, a4, a5, fun j hj => ?_⟩
        rw [hg, if_pos (by have := a3.2.1; omega)]
        exact a6 j hj
    · rw [u1_n es, u1_n es, u1_n es]
      rcases o3.1 s' hs' with b1 | ⟨b1, b2, so, k, b3, b4, b5, b6⟩
      · exact Or.inl b1
      · refine Or.inr ⟨b1, b2.dy hd, so, k, b3.dy b2 hd, b4, b5, fun j hj => ?_⟩
        rw [hg, if_neg (by have := b3.2.1; omega), (hd.2 _ b2.1.1 b2.1.2.1).2.2, (hd.2 _ b2.2.1.1 b2.2.1.2.1).2.1]
        exact b6 j hj
  · by_cases e1 : s1 = s
    · by_cases e2 : s2 = s
      · rw [e1, e2]
      · exfalso
        subst e1
        rw [u1_s] at n1
        rw [u1_n e2] at n2
        rw [u1_s, u1_n e2] at e
        have q2 := o3.ok hs2 n2
        rw [(hd.2 _ q2.1.1 q2.1.2.1).2.2] at e
        exact hu n1 (by rw [e]; exact q2.2.1.2.1)
    · by_cases e2 : s2 = s
      · exfalso
        subst e2
        rw [u1_s] at n2
        rw [u1_n e1] at n1
        rw [u1_s, u1_n e1] at e
        have q1 := o3.ok hs1 n1
        rw [(hd.2 _ q1.1.1 q1.1.2.1).2.2] at e
        exact hu n2 (by rw [← e]; exact q1.2.1.2.1)
      · rw [u1_n e1] at n1
        rw [u1_n e2] at n2
        rw [u1_n e1, u1_n e2] at e
        have q1 := o3.ok hs1 n1
        have q2 := o3.ok hs2 n2
        rw [(hd.2 _ q1.1.1 q1.1.2.1).2.2, (hd.2 _ q2.1.1 q2.1.2.1).2.2] at e
        exact o3.2 s1 s2 hs1 hs2 n1 n2 e
section SSH
variable {S : St} {d d2 k c : Nat} {x : Int32}
theorem sSh_N (h : c ≠ d) (h2 : c ≠ d2) : gN (sSh S d d2 x k) c = gN S c := by
  show gN (sN (sN (sI (sN (sN S d 9 0) d 1 d2) d 0 x) d2 9 1) d2 0 k) c = _
  rw [sN_ne _ _ _ h2, sN_ne _ _ _ h2]
  show gN (sN (sN S d 9 0) d 1 d2) c = _
  rw [sN_ne _ _ _ h, sN_ne _ _ _ h]
theorem sSh_d1 (h : d ≠ d2) : gN (sSh S d d2 x k) d 1 = d2 := by
  show gN (sN (sN (sI (sN (sN S d 9 0) d 1 d2) d 0 x) d2 9 1) d2 0 k) d 1 = _
  rw [sN_ne _ _ _ h, sN_ne _ _ _ h]
  show gN (sN (sN S d 9 0) d 1 d2) d 1 = d2
  rw [gN_sN]
  exact u1_s
theorem sSh_e0 : gN (sSh S d d2 x k) d2 0 = k := by
  show gN (sN (sN (sI (sN (sN S d 9 0) d 1 d2) d 0 x) d2 9 1) d2 0 k) d2 0 = _
  rw [gN_sN]
  exact u1_s
theorem sSh_e9 : gN (sSh S d d2 x k) d2 9 = 1 := by
  show gN (sN (sN (sI (sN (sN S d 9 0) d 1 d2) d 0 x) d2 9 1) d2 0 k) d2 9 = _
  rw [gN_sN, gN_sN]
  rfl
theorem sSh_I (h : c ≠ d) : gI (sSh S d d2 x k) c = gI S c := by
  show gI (sI (sN (sN S d 9 0) d 1 d2) d 0 x) c = gI (sN (sN S d 9 0) d 1 d2) c
  exact gI_sIn h
theorem sSh_I0 : gI (sSh S d d2 x k) d 0 = x := by
  show gI (sI (sN (sN S d 9 0) d 1 d2) d 0 x) d 0 = x
  exact gI_sIs
theorem sSh_A (h : c ≠ d2) : gA (sSh S d d2 x k) c = gA S c := by
  show gA (sR (sN (sN (sI (sN (sN S d 9 0) d 1 d2) d 0 x) d2 9 1) d2 0 k) d2 (fun _ => 0)) c = _
  rw [gA_sRn h]
  rfl
theorem sSh_A2 : gA (sSh S d d2 x k) d2 = fun _ => 0 := by
  show gA (sR (sN (sN (sI (sN (sN S d 9 0) d 1 d2) d 0 x) d2 9 1) d2 0 k) d2 (fun _ => 0)) d2 = _
  rw [gA_sR]
end SSH
theorem Rel.unsheet {n : List Nat} {S T : St} {s : Nat} {x y : Int32} {g : Nat → Int64} (h : Rel n S T) (hs : s < 4) (hx : x = mI 1) (hg : ∀ j, g j = if 40 * s ≤ j ∧ j < 40 * s + 40 then 0 else gL T 13 j) : Rel n (sN S 4 s 0) (sG (sA (sA T 11 s x) 12 s y) g) :=
  h.sheets (v := 0) hs (fun c _ => ⟨rfl, rfl⟩) (fun c _ hc => gN_sNn hc) (gN_sN _ _ _ _) (DY.same fun c hc => ⟨rfl, rfl, gN_sNn (by omega)⟩) hg (Or.inl ⟨rfl, hx⟩) (fun z => absurd rfl z)
theorem Rel.newsheet {n : List Nat} {S T : St} {s q q2 so k : Nat} {x y : Int32} {g : Nat → Int64} (h : Rel n S T) (hs : s < 4) (hso : so < 4) (hx : x = nI so) (hk : k ≤ 40) (hy : y = nI k) (hq : ∀ c ∈ n, c ≠ 59 + q) (hq2 : ∀ c ∈ n ++ [59 + q], c ≠ 59 + q2) (hg : ∀ j, g j = if 40 * s ≤ j ∧ j < 40 * s + 40 then 0 else gL T 13 j) : Rel (n ++ [59 + q] ++ [59 + q2]) (sN (sSh S (59 + q) (59 + q2) x k) 4 s (59 + q)) (sG (sA (sA T 11 s x) 12 s y) g) := by
  have hne : 59 + q ≠ 59 + q2 := hq2 _ (List.mem_append_right _ List.mem_cons_self)
  have hmem : ∀ c, c ∈ n → c ∈ n ++ [59 + q] ++ [59 + q2] := fun c hc => List.mem_append_left _ (List.mem_append_left _ hc)
  have hn2 : ∀ c ∈ n, c ≠ 59 + q2 := fun c hc => hq2 c (List.mem_append_left _ hc)
  have eN : ∀ c, c ≠ 4 → gN (sN (sSh S (59 + q) (59 + q2) x k) 4 s (59 + q)) c = gN (sSh S (59 + q) (59 + q2) x k) c := fun c hc => gN_sNn hc
  have hsh := sSh_is S (n := n) (q := q) (q2 := q2) (x := x) (k := k) hq2
  have d1 : gN (sN (sSh S (59 + q) (59 + q2) x k) 4 s (59 + q)) (59 + q) 1 = 59 + q2 := by
    rw [eN _ (by omega)]
    exact sSh_d1 hne
  have eI : ∀ c, c ≠ 59 + q → gI (sN (sSh S (59 + q) (59 + q2) x k) 4 s (59 + q)) c = gI S c := fun c hc => by
    show gI (sSh S (59 + q) (59 + q2) x k) c = _
    exact sSh_I hc
  have eA : ∀ c, c ≠ 59 + q2 → gA (sN (sSh S (59 + q) (59 + q2) x k) 4 s (59 + q)) c = gA S c := fun c hc => by
    show gA (sSh S (59 + q) (59 + q2) x k) c = _
    exact sSh_A hc
  refine h.sheets (v := 59 + q) hs (fun c hc => ⟨eI c (by omega), eA c (by omega)⟩) (fun c h1 h2 => ?_) ?_ ⟨hmem, fun c hc hcn => ⟨eI c (hq c hcn), eA c (hn2 c hcn), ?_⟩⟩ hg (Or.inr ⟨by omega, ⟨⟨hsh.1, hsh.2.1, ?_⟩, ?_, ?_⟩, so, k, ⟨hso, hk, ?_, ?_⟩, hx, hy, fun j hj => ?_⟩) (fun _ z => ?_)
  · rw [eN c h2]
    exact sSh_N (by omega) (by omega)
  · rw [gN_sN, sSh_N (by omega) (by omega)]
  · rw [eN c (by omega)]
    exact sSh_N (hq c hcn) (hn2 c hcn)
  · rw [eN _ (by omega)]
    exact hsh.2.2
  · rw [d1]
    refine ⟨by omega, List.mem_append_right _ List.mem_cons_self, ?_⟩
    rw [eN _ (by omega)]
    exact sSh_e9
  · rw [d1, eN _ (by omega), sSh_e0]
    exact hk
  · show gI (sSh S (59 + q) (59 + q2) x k) (59 + q) 0 = _
    rw [sSh_I0]
    exact hx
  · rw [d1, eN _ (by omega)]
    exact sSh_e0
  · rw [d1]
    show (0 : Int64) = (gA (sSh S (59 + q) (59 + q2) x k) (59 + q2) j).toInt64
    rw [sSh_A2]
    rfl
  · rw [d1] at z
    exact hn2 _ z rfl
theorem r_inS_b {a : Int32} {T : St} {Q : Int32 → St → Prop} (h : OutR a 0 4) (hne : a ≠ -1) (q : Q 0 T) : wp_X12_in a (-1 : Int32) (3 : Int32) T Q := by
  have e : a.toInt ≠ -1 := fun z => hne (Int32.toInt_inj.mp z)
  unfold wp_X12_in
  refine ⟨fun _ => q, fun h1 => ⟨fun _ => q, fun h2 => ?_⟩⟩
  rw [Int32.lt_iff_toInt_lt] at h1 h2
  have e1 : (-1 : Int32).toInt = -1 := rfl
  have e3 : (3 : Int32).toInt = 3 := rfl
  unfold OutR at h
  omega
theorem r_inS_t {a : Int32} {T : St} {Q : Int32 → St → Prop} (h : -1 ≤ a.toInt ∧ a.toInt ≤ 3) (q : Q 1 T) : wp_X12_in a (-1 : Int32) (3 : Int32) T Q := by
  have e1 : (-1 : Int32).toInt = -1 := rfl
  have e3 : (3 : Int32).toInt = 3 := rfl
  unfold wp_X12_in
  refine br_f (fun z => ?_) (br_f (fun z => ?_) q)
  · rw [Int32.lt_iff_toInt_lt] at z
    omega
  · rw [Int32.lt_iff_toInt_lt] at z
    omega
theorem st_sheet : step_sheet Rel := by
  intro n S T a1 a2 a3 hn h
  have hw := h.1.w
  have h0 := h.2.2.1
  obtain ⟨V, L, t, c, p, hC⟩ := h.2.2.2.1
  have hc3 : gI S (gN S 0 8) 3 = nI c := hC.1.2.2.1
  have ht4 : gI S (gN S 0 8) 4 = nI t := hC.1.2.2.2.1
  have hc6 : c ≤ 6 := hC.2.1.2.1
  have ht5 : t ≤ 50 := hC.2.1.1
  have hr1 : gA T 3 1 = nI c := hC.2.2.2.2.1.2.1
  have hr0 : gA T 3 0 = nI t := hC.2.2.2.2.1.1
  unfold wp_X11_sheet
  rcases rng a1 0 4 (by omega) with b | ⟨j1, g1, h1, rfl⟩
  · exact c_sheet_b b (d_0 ((by unfold wp_X12_sheet; exact r_shelf_b b (d_0 (⟨rfl, h⟩)))))
  have kU : ∀ R : Int32 → St → Prop, (∀ g, (∀ j, g j = if 40 * j1 ≤ j ∧ j < 40 * j1 + 40 then 0 else gL T 13 j) → R 1 (sG (sA (sA T 11 j1 (-1)) 12 j1 0) g)) → wp_X12_sheet (nI j1) (-1) a3 T R := by
    intro R k
    unfold wp_X12_sheet
    refine r_shelf_t h1 (d_1 (r_inS_t ⟨by decide, by decide⟩ (d_1 (br_t (by decide) ?_))))
    unfold wj_X12_sheet_28
    refine br_t (by decide) ?_
    unfold wj_X12_sheet_39
    rw [nI_clamp (by omega)]
    exact ⟨vp_in_nI (by omega) (by decide), nm_e (br_f (by decide) (r_sheet_60 h1 k))⟩
  refine c_sheet_t h1 (d_1 (?_))
  rcases rng a2 0 4 (by omega) with b | ⟨j2, g2, h2, rfl⟩
  · refine c_sort_b b (d_0 ⟨fun e => ?_, fun e => ?_⟩)
    · subst e
      refine br_t rfl ?_
      rw [nI_clamp (by omega)]
      exact ⟨vp_in_nI (by omega) (by decide), nm_e (kU _ fun g hg => ⟨rfl, h.unsheet h1 rfl hg⟩)⟩
    · unfold wp_X12_sheet
      exact r_shelf_t h1 (d_1 (r_inS_b b e (d_0 ⟨rfl, h⟩)))
  · have hne : ¬ nI j2 = (-1 : Int32) := fun z => mI_ne (a := 1) (by decide) (by decide) j2 (by omega) z.symm
    have hi : -1 ≤ (nI j2).toInt ∧ (nI j2).toInt ≤ 3 := by
      rw [nI_toInt (by omega)]
      omega
    refine c_sort_t h2 (d_1 (br_f hne ⟨fun q1 => ⟨fun q2 => ?_, fun q2 => ?_⟩, fun q1 => ?_⟩))
    · obtain ⟨k, hk, rfl⟩ := nI_of2 (n := 40) (M := 40) rfl (by rw [Int32.lt_iff_toInt_lt]; rw [Int32.le_iff_toInt_le] at q2; omega) q1
      rw [nI_clamp (by omega), nI_clamp (by omega)]
      refine ⟨nI_pos (by omega), hk, vp_in_nI (by omega) (by decide), fun x y hx hy => ?_⟩
      unfold wp_X12_sheet
      refine r_shelf_t h1 (d_1 (r_inS_t hi (d_1 (br_f (nI_pos (by omega)) (br_t q1 ?_)))))
      unfold wj_X12_sheet_28
      refine br_f (nI_pos (by omega)) (br_t q2 ?_)
      unfold wj_X12_sheet_39
      rw [nI_clamp (by omega)]
      exact ⟨vp_in_nI (by omega) (by decide), nm_e (br_t (nI_pos' (by omega)) (r_sheet_60 h1 fun g hg => ⟨rfl, h.newsheet h1 h2 rfl hk rfl hx hy hg⟩))⟩
    · unfold wp_X12_sheet
      refine r_shelf_t h1 (d_1 (r_inS_t hi (d_1 (br_f (nI_pos (by omega)) (br_t q1 ?_)))))
      unfold wj_X12_sheet_28
      exact br_f (nI_pos (by omega)) (br_f q2 ⟨rfl, h⟩)
    · unfold wp_X12_sheet
      exact r_shelf_t h1 (d_1 (r_inS_t hi (d_1 (br_f (nI_pos (by omega)) (br_f q1 ⟨rfl, h⟩)))))
theorem c_has {n : List Nat} {S : St} {o k : Nat} {a : Int32} {Q : Int32 → St → Prop} (hok : SHok n S o) (hk : gN S (gN S o 1) 0 = k) (q0 : OutR a 0 k → Q 0 S) (q1 : ∀ j, j < k → a = nI j → Q 1 S) : wp_X6_has n o a S Q := by
  have hk40 : k ≤ 40 := by
    rw [← hk]
    exact hok.2.2
  unfold wp_X6_has
  refine ⟨hok.1, ?_⟩
  rcases rng a 0 k (by omega) with b | ⟨j, g, hj, rfl⟩
  · have hh := g1_b (P := Q 0 S) (P1 := Q 1 S) (x := 0) (y := nI k) b (q0 b)
    refine ⟨hh.1, fun z => nm_e ⟨hok.2.1, ?_⟩⟩
    rw [hk]
    exact hh.2 z
  · refine br_f (nI_pos (by omega)) (nm_e ⟨hok.2.1, ?_⟩)
    rw [hk]
    exact br_f (nI_ge hj (by omega)) (q1 j hj rfl)
def nar (so : Nat) (v : Int32) : Int32 := if so = 0 then v.toInt8.toInt32 else if so = 1 then v.toInt16.toInt32 else v
theorem c_nar {n : List Nat} {S : St} {o so : Nat} {v : Int32} {Q : Int32 → St → Prop} (hs : isSh n S o) (h : gI S o 0 = nI so) (hso : so < 4) (q : Q (nar so v) S) : wp_X6_narrowed n o v S Q := by
  unfold wp_X6_narrowed
  unfold nar at q
  rw [h]
  refine ⟨hs, pk_eq so 0 (fun e => ?_) (fun e => pk_eq so 1 (fun e' => ?_) (fun e' => ?_))⟩
  · rw [if_pos e] at q
    exact q
  · rw [if_neg e, if_pos e'] at q
    exact q
  · rw [if_neg e, if_neg e'] at q
    exact q
theorem Rel.put {n : List Nat} {S T : St} {s j : Nat} {v : Int32} (h : Rel n S T) (hs : s < 4) (hj : j < 40) (h0 : ¬ gN S 4 s = 0) : Rel n (sA S (gN S (gN S 4 s) 1) j v) (sL T 13 (40 * s + j) v.toInt64) := by
  obtain ⟨o1, o2, o3, o4, o5⟩ := h.2.2.2.2.2
  have hok := o3.ok hs h0
  have g59 := hok.2.1.1
  refine h.side (SJ_A (Or.inr g59)) TS_L rfl rfl rfl ⟨o1.of2 rfl (gA_sAn (by omega)) rfl rfl, o2.of2 rfl (gA_sAn (by omega)) rfl rfl, ⟨fun s' hs' => ?_, o3.2⟩, ?_, o5.of2 rfl (gA_sAn (by omega)) rfl rfl⟩
  · rcases o3.1 s' hs' with b1 | ⟨b1, b2, so, k, b3, b4, b5, b6⟩
    · exact Or.inl b1
    · refine Or.inr ⟨b1, b2, so, k, b3, b4, b5, fun i hi => ?_⟩
      have hk := b3.2.1
      show gL (sL T 13 (40 * s + j) v.toInt64) 13 (40 * s' + i) = (gA (sA S (gN S (gN S 4 s) 1) j v) (gN S (gN S 4 s') 1) i).toInt64
      rw [gL_sL]
      by_cases es : s' = s
      · subst es
        rw [gA_sA]
        by_cases ei : i = j
        · subst ei
          rw [u1_s, u1_s]
        · rw [u1_n (by omega), u1_n ei]
          exact b6 i hi
      · rw [u1_n (by omega), gA_sAn (fun z => es (o3.2 s' s hs' hs b1 h0 z))]
        exact b6 i hi
  · unfold RShelves
    rw [gA_sAn (by omega)]
    exact o4
theorem st_put : step_put Rel := by
  intro n S T a1 a2 a3 hn h
  have hw := h.1.w
  have h0 := h.2.2.1
  obtain ⟨V, L, t, c, p, hC⟩ := h.2.2.2.1
  have hc3 : gI S (gN S 0 8) 3 = nI c := hC.1.2.2.1
  have ht4 : gI S (gN S 0 8) 4 = nI t := hC.1.2.2.2.1
  have hc6 : c ≤ 6 := hC.2.1.2.1
  have ht5 : t ≤ 50 := hC.2.1.1
  have hr1 : gA T 3 1 = nI c := hC.2.2.2.2.1.2.1
  have hr0 : gA T 3 0 = nI t := hC.2.2.2.2.1.1
  unfold wp_X11_put
  rcases rng a1 0 4 (by omega) with b | ⟨j1, g1, h1, rfl⟩
  · exact c_sheet_b b (d_0 ((by unfold wp_X12_put; exact r_shelf_b b (d_0 (⟨rfl, h⟩)))))
  have hS := h.2.2.2.2.2.2.2.1
  refine c_sheet_t h1 (d_1 (?_))
  rw [nI_clamp (by omega)]
  refine ⟨vp_in_nI (by omega) (by decide), nm_e ?_⟩
  rcases hS.1 j1 h1 with ⟨e0, e1⟩ | ⟨e0, hok, so, k, ⟨q1, q2, q3, q4⟩, q5, q6, q7⟩
  · refine br_t e0 ?_
    unfold wp_X12_put
    refine r_shelf_t h1 (d_1 (?_))
    rw [nI_clamp (by omega), e1]
    exact ⟨vp_in_nI (by omega) (by decide), br_f (mI_nle (by decide) (by decide) 0 (by decide)) ⟨rfl, h⟩⟩
  · refine br_f e0 ⟨hok.1, c_has hok q4 (fun b => d_0 ?_) (fun j2 h2 e => d_1 ⟨hok.1, nm_e ⟨hok.2.1, c_nar hok.1 q3 q1 ?_⟩⟩)⟩
    · unfold wp_X12_put
      refine r_shelf_t h1 (d_1 (?_))
      rw [nI_clamp (by omega), q5, q6]
      exact ⟨vp_in_nI (by omega) (by decide), br_t (nI_pos' (by omega)) ⟨vp_in_nI (by omega) (by decide), r_inM_b rfl (by omega) b (d_0 ⟨rfl, h⟩)⟩⟩
    · subst e
      have hR := h.put (v := nar so a3) h1 (j := j2) (by omega) e0
      rw [q4, nI_clamp (by omega)]
      refine ⟨hok.2.1, vp_in_nI h2 (by omega), nm_e ?_⟩
      unfold wp_X12_put
      refine r_shelf_t h1 (d_1 (?_))
      rw [nI_clamp (by omega), q5, q6]
      have e40 : (40 : Int32) * nI j1 + nI j2 = nI (40 * j1 + j2) := by
        show nI 40 * nI j1 + nI j2 = _
        rw [pk_mul, nI_add]
      refine ⟨vp_in_nI (by omega) (by decide), br_t (nI_pos' (by omega)) ⟨vp_in_nI (by omega) (by decide), r_inM_t rfl (by omega) h2 (d_1 ?_)⟩⟩
      rw [q5, e40, nI_clamp (by omega)]
      refine ⟨vp_in_nI (by omega) (by decide), pk_eq so 0 (fun e => ⟨vp_in_nI (by omega) (by decide), nm_e ⟨rfl, ?_⟩⟩) (fun e => ⟨vp_in_nI (by omega) (by decide), pk_eq so 1 (fun e' => ⟨vp_in_nI (by omega) (by decide), nm_e ⟨rfl, ?_⟩⟩) (fun e' => ⟨vp_in_nI (by omega) (by decide), nm_e ⟨rfl, ?_⟩⟩)⟩)⟩
      · unfold nar at hR ⊢
        rw [if_pos e] at hR ⊢
        exact hR
      · unfold nar at hR ⊢
        rw [if_neg e, if_pos e'] at hR ⊢
        exact hR
      · unfold nar at hR ⊢
        rw [if_neg e, if_neg e'] at hR ⊢
        exact hR
theorem st_item : step_item Rel := by
  intro n S T a1 a2 a3 hn h
  have hw := h.1.w
  have h0 := h.2.2.1
  obtain ⟨V, L, t, c, p, hC⟩ := h.2.2.2.1
  have hc3 : gI S (gN S 0 8) 3 = nI c := hC.1.2.2.1
  have ht4 : gI S (gN S 0 8) 4 = nI t := hC.1.2.2.2.1
  have hc6 : c ≤ 6 := hC.2.1.2.1
  have ht5 : t ≤ 50 := hC.2.1.1
  have hr1 : gA T 3 1 = nI c := hC.2.2.2.2.1.2.1
  have hr0 : gA T 3 0 = nI t := hC.2.2.2.2.1.1
  unfold wp_X11_item
  rcases rng a1 0 4 (by omega) with b | ⟨j1, g1, h1, rfl⟩
  · exact c_sheet_b b (d_0 ((by unfold wp_X12_item; exact r_shelf_b b (d_0 (⟨rfl, h⟩)))))
  rcases rng a2 0 4 (by omega) with b | ⟨j2, g2, h2, rfl⟩
  · exact c_sheet_t h1 (d_1 (c_sort_b b (d_0 ((by unfold wp_X12_item; exact r_shelf_t h1 (d_1 (r_in_b (M := 3) b (d_0 (⟨rfl, h⟩)))))))))
  have hS := h.2.2.2.2.2.2.2.1
  refine c_sheet_t h1 (d_1 (c_sort_t h2 (d_1 (?_))))
  rw [nI_clamp (by omega)]
  refine ⟨vp_in_nI (by omega) (by decide), nm_e ?_⟩
  rcases hS.1 j1 h1 with ⟨e0, e1⟩ | ⟨e0, hok, so, k, ⟨q1, q2, q3, q4⟩, q5, q6, q7⟩
  · refine br_t e0 ?_
    unfold wp_X12_item
    refine r_shelf_t h1 (d_1 (r_in_t (M := 3) (Nat.zero_le _) h2 (d_1 (?_))))
    unfold wp_X12_lacksSort
    rw [nI_clamp (by omega), e1]
    exact ⟨vp_in_nI (by omega) (by decide), br_f (mI_nle (by decide) (by decide) 0 (by decide)) (br_f (by decide) ⟨rfl, h⟩)⟩
  · refine br_f e0 ⟨hok.1, ?_⟩
    rw [q3]
    refine pk_eq so j2 (fun e => c_has hok q4 (fun b => d_0 ?_) (fun j3 h3 e3 => d_1 ⟨hok.1, nm_e ⟨hok.2.1, ?_⟩⟩)) (fun e => ?_)
    · unfold wp_X12_item
      refine r_shelf_t h1 (d_1 (r_in_t (M := 3) (Nat.zero_le _) h2 (d_1 (?_))))
      unfold wp_X12_lacksSort
      rw [nI_clamp (by omega), q5]
      refine ⟨vp_in_nI (by omega) (by decide), br_t (nI_pos' (by omega)) ⟨vp_in_nI (by omega) (by decide), d_eqT so j2 e (br_t rfl ⟨vp_in_nI (by omega) (by decide), ?_⟩)⟩⟩
      rw [q6]
      exact r_inM_b rfl (by omega) b (d_0 ⟨rfl, h⟩)
    · subst e3
      rw [q4, nI_clamp (by omega)]
      refine ⟨vp_in_nI h3 (by omega), ?_⟩
      unfold wp_X12_item
      refine r_shelf_t h1 (d_1 (r_in_t (M := 3) (Nat.zero_le _) h2 (d_1 (?_))))
      unfold wp_X12_lacksSort
      rw [nI_clamp (by omega), q5]
      have e40 : (40 : Int32) * nI j1 + nI j3 = nI (40 * j1 + j3) := by
        show nI 40 * nI j1 + nI j3 = _
        rw [pk_mul, nI_add]
      refine ⟨vp_in_nI (by omega) (by decide), br_t (nI_pos' (by omega)) ⟨vp_in_nI (by omega) (by decide), d_eqT so j2 e (br_t rfl ⟨vp_in_nI (by omega) (by decide), ?_⟩)⟩⟩
      rw [q6]
      refine r_inM_t rfl (by omega) h3 (d_1 ?_)
      rw [e40, nI_clamp (by omega), q7 j3 h3, Int32.toInt32_toInt64]
      exact ⟨vp_in_nI (by omega) (by decide), rfl, h⟩
    · unfold wp_X12_item
      refine r_shelf_t h1 (d_1 (r_in_t (M := 3) (Nat.zero_le _) h2 (d_1 (?_))))
      unfold wp_X12_lacksSort
      rw [nI_clamp (by omega), q5]
      exact ⟨vp_in_nI (by omega) (by decide), br_t (nI_pos' (by omega)) ⟨vp_in_nI (by omega) (by decide), d_eqF so j2 e (br_f (by decide) ⟨rfl, h⟩)⟩⟩
