/-! turned, cut, laid, gone; a day; what it is worth: on the reference's row -/
theorem r_turns_l {T : St} {u p b : Nat} {x y : Int32} {q : AP} {K : Int32 → St → Prop} {r0 : Nat → Int32} (h : At T u p b) (hx : x = nI p) (hq : VPa q) (hy : y = nI q.2.1) (k : ∀ z r', (∀ j, j < q.2.1 → r' (b + (3 + j)) = eI (q.2.2.2 (q.2.1 - 1 - j))) → (∀ j, j < b + 3 ∨ b + 19 ≤ j → r' j = r0 j) → K z (sR T 3 r')) : ∀ (m c : Nat) (r : Nat → Int32), c + m = q.2.1 / 2 → (∀ j, j < q.2.1 → r (b + (3 + j)) = eI (if j < c ∨ q.2.1 - 1 < j + c then q.2.2.2 (q.2.1 - 1 - j) else q.2.2.2 j)) → (∀ j, j < b + 3 ∨ b + 19 ≤ j → r j = r0 j) → wl_X12_turns_9 x y K (m + 1) (nI c) (sR T 3 r)
  | 0, c, r, hc, hr, ho => by
    have hn1 := hq.2.1
    have e2 : nI q.2.1 / (2 : Int32) = nI (q.2.1 / 2) := pk_div (d := 2) (by have := hq.2.2.1; omega) (by omega) (by omega)
    rw [wl_X12_turns_9, hy, e2]
    refine d_leT (q.2.1 / 2) c (by omega) (k _ _ (fun j hj => ?_) ho) rfl rfl (by have := hq.2.2.1; omega)
    rw [hr j hj]
    by_cases h1 : j < c ∨ q.2.1 - 1 < j + c
    · rw [if_pos h1]
    · rw [if_neg h1]
      have e : q.2.1 - 1 - j = j := by omega
      rw [e]
  | m + 1, c, r, hc, hr, ho => by
    have hn1 := hq.2.1
    have hn := hq.2.2.1
    have e2 : nI q.2.1 / (2 : Int32) = nI (q.2.1 / 2) := pk_div (d := 2) (by omega) (by omega) (by omega)
    rw [wl_X12_turns_9, hy, e2]
    refine d_leF (q.2.1 / 2) c (by omega) ?_
    have i1 : (3 : Int32) + nI c = nI (3 + c) := nI_add 3 c
    have i2 : ((3 : Int32) + nI q.2.1) - 1 - nI c = nI (3 + (q.2.1 - 1 - c)) := by
      show nI 3 + nI q.2.1 - nI 1 - nI c = _
      rw [nI_add, pk_sub (by omega), pk_sub (by omega)]
      have e : 3 + q.2.1 - 1 - c = 3 + (q.2.1 - 1 - c) := by omega
      rw [e]
    unfold wp_X12_swaps
    refine r_its (T := sR T 3 r) h hx i1 (by omega) (r_its (T := sR T 3 r) h hx i2 (by omega) (r_bec (T := sR T 3 r) h hx i1 (by omega) ?_))
    rw [sR_sR, gA_sR]
    refine r_bec (T := sR T 3 _) h hx i2 (by omega) (nm_r (nI_1 c) ?_)
    rw [sR_sR, gA_sR, ← hy]
    refine r_turns_l h hx hq hy k m (c + 1) _ (by omega) (fun j hj => ?_) (fun j hj => ?_)
    · by_cases hj1 : j = q.2.1 - 1 - c
      · subst hj1
        rw [u1_s, hr c (by omega), if_neg (by omega), if_pos (by omega)]
        have e : q.2.1 - 1 - (q.2.1 - 1 - c) = c := by omega
        rw [e]
      · rw [u1_n (by omega)]
        by_cases hj2 : j = c
        · subst hj2
          rw [u1_s, hr _ (by omega), if_neg (by omega), if_pos (by omega)]
        · rw [u1_n (by omega), hr j hj]
          by_cases h1 : j < c ∨ q.2.1 - 1 < j + c
          · rw [if_pos h1, if_pos (by omega)]
          · rw [if_neg h1, if_neg (by omega)]
    · rw [u1_n (by omega), u1_n (by omega)]
      exact ho j hj
theorem r_turns {T : St} {u p b : Nat} {x : Int32} {q : AP} {Q : St → Prop} (h : At T u p b) (hx : x = nI p) (hr : RS (gA T 3) b q) (hq : VPa q) (k : ∀ r', RS r' b (aTurn q) → Out (gA T 3) r' b → Q (sR T 3 r')) : wp_X12_turns x T Q := by
  unfold wp_X12_turns
  refine r_its h hx (k := 1) rfl (by decide) ⟨q.2.1 / 2 + 1, ?_⟩
  have e : T = sR T 3 (gA T 3) := sR_self.symm
  rw [hr.2.1, e]
  refine r_turns_l (T := T) (r0 := gA T 3) h hx hq rfl (fun z r' h1 h2 => ?_) (q.2.1 / 2) 0 _ (by omega) (fun j hj => ?_) (fun _ _ => rfl)
  · refine k r' ⟨?_, ?_, ?_, h1⟩ fun j hj => h2 j (by omega)
    · rw [h2 _ (by omega)]
      exact hr.1
    · rw [h2 _ (by omega)]
      exact hr.2.1
    · rw [h2 _ (by omega)]
      exact hr.2.2.1
  · rw [if_neg (by omega)]
    exact hr.2.2.2 j hj
theorem r_cuts_l {T : St} {u p b p2 b2 k n : Nat} {x y z v : Int32} {q : AP} {K : Int32 → St → Prop} {r0 : Nat → Int32} (h : At T u p b) (h2 : At T u p2 b2) (hbb : b + 19 ≤ b2 ∨ b2 + 19 ≤ b) (hx : x = nI p) (hy : y = nI k) (hz : z = nI p2) (hv : v = nI q.2.1) (hq : VPa q) (hr0 : ∀ j, j < q.2.1 → r0 (b + (3 + j)) = eI (q.2.2.2 j)) (hk : k + n = q.2.1) (kk : ∀ w r', (∀ j, j < n → r' (b2 + (3 + j)) = eI (q.2.2.2 (k + j))) → (∀ j, j < b2 + 3 ∨ b2 + 19 ≤ j → r' j = r0 j) → K w (sR T 3 r')) : ∀ (m c : Nat) (r : Nat → Int32), c + m = n → (∀ j, j < c → r (b2 + (3 + j)) = eI (q.2.2.2 (k + j))) → (∀ j, j < b2 + 3 ∨ b2 + 19 ≤ j → r j = r0 j) → wl_X12_cuts_22 x y z v K (m + 1) (nI (k + c)) (sR T 3 r)
  | 0, c, r, hc, hr, ho => by
    rw [wl_X12_cuts_22]
    exact d_leT q.2.1 (k + c) (by omega) (kk _ _ (by rw [← hc]; exact hr) ho) hv rfl (by have := hq.2.2.1; omega)
  | m + 1, c, r, hc, hr, ho => by
    have hn := hq.2.2.1
    rw [wl_X12_cuts_22]
    refine d_leF q.2.1 (k + c) (by omega) ?_ hv
    refine r_its (T := sR T 3 r) (k := 3 + (k + c)) h hx (nI_add 3 _) (by omega) ?_
    refine r_bec (T := sR T 3 r) (k := 3 + c) h2 hz ?_ (by omega) (nm_r (nI_1 (k + c)) ?_)
    · rw [hy]
      show nI 3 + nI (k + c) - nI k = _
      rw [nI_add, pk_sub (by omega)]
      have e : 3 + (k + c) - k = 3 + c := by omega
      rw [e]
    · rw [sR_sR, gA_sR]
      refine r_cuts_l h h2 hbb hx hy hz hv hq hr0 hk kk m (c + 1) _ (by omega) (fun j hj => ?_) (fun j hj => ?_)
      · by_cases hjc : j = c
        · subst hjc
          rw [u1_s, ho _ (by omega)]
          exact hr0 _ (by omega)
        · rw [u1_n (by omega)]
          exact hr j (by omega)
      · rw [u1_n (by omega)]
        exact ho j hj
theorem r_cuts {T : St} {u p b p2 b2 k : Nat} {x y z : Int32} {q : AP} {Q : St → Prop} (h : At T u p b) (h2 : At T u p2 b2) (hbb : b + 19 ≤ b2 ∨ b2 + 19 ≤ b) (hx : x = nI p) (hy : y = nI k) (hz : z = nI p2) (hr : RS (gA T 3) b q) (hq : VPa q) (hk : k < q.2.1) (kk : ∀ r', RS r' b (aCutA k q) → RS r' b2 (aCutB k q) → (∀ j, (j < b ∨ b + 19 ≤ j) → (j < b2 ∨ b2 + 19 ≤ j) → r' j = gA T 3 j) → Q (sR T 3 r')) : wp_X12_cuts x y z T Q := by
  have hn := hq.2.2.1
  unfold wp_X12_cuts
  refine r_its h hx (k := 1) rfl (by decide) ?_
  rw [hr.2.1]
  refine r_makes (k := 0) (n := q.2.1 - k) (pl := 4) h2 hz rfl (by rw [hy]; exact pk_sub (by omega)) rfl (by omega) fun r1 hs1 ho1 => ⟨q.2.1 - k + 1, ?_⟩
  obtain ⟨s1, s2, s3, s4⟩ := hr.out hn ho1 hbb
  have e0 : y = nI (k + 0) := hy
  have e1 : wl_X12_cuts_22 x y z (nI q.2.1) (fun e5_9 S10 => wp_X12_becomes x (1 : Int32) y S10 (fun S11 => Q S11)) (q.2.1 - k + 1) (nI (k + 0)) (sR T 3 r1) := by
    refine r_cuts_l (T := T) (n := q.2.1 - k) (r0 := r1) h h2 hbb hx hy hz rfl hq s4 (by omega) (fun w r' h3 h4 => ?_) (q.2.1 - k) 0 r1 (by omega) (fun j hj => absurd hj (by omega)) (fun _ _ => rfl)
    refine r_bec (T := sR T 3 r') (k := 1) h hx rfl (by decide) ?_
    rw [sR_sR, gA_sR]
    refine kk _ ⟨?_, ?_, ?_, fun j hj => ?_⟩ ⟨?_, ?_, ?_, fun j hj => ?_⟩ fun j hj1 hj2 => ?_
    · rw [u1_n (by omega), h4 _ (by omega)]
      exact s1
    · rw [u1_s]
      exact hy
    · rw [u1_n (by omega), h4 _ (by omega)]
      exact s3
    · have hj' : j < k := hj
      rw [u1_n (by omega), h4 _ (by omega)]
      exact s4 j (by omega)
    · rw [u1_n (by omega), h4 _ (by omega)]
      exact hs1.1
    · rw [u1_n (by omega), h4 _ (by omega)]
      exact hs1.2.1
    · rw [u1_n (by omega), h4 _ (by omega)]
      exact hs1.2.2.1
    · have hj' : j < q.2.1 - k := hj
      rw [u1_n (by omega)]
      exact h3 j hj'
    · rw [u1_n (by omega), h4 _ (by omega), ho1 _ (by omega)]
  rw [← e0] at e1
  exact e1
theorem r_worth_l {T : St} {u p b l n : Nat} {x y z : Int32} {V L : Nat → Nat} {K : Int32 → Int32 → Int32 → St → Prop} (h : At T u p b) (hx : x = nI p) (hV : NR (gA T 1) V 200 99) (hL : NR (gA T 2) L 12 9) (hy : y = nI l) (hl : l < 3) (hz : z = nI n) (hn : n ≤ 20) : ∀ (m d c acc : Nat) (q : AP) (r : Nat → Int32), d + m ≤ 50 → c + m ≤ n → (d + m = 50 ∨ c + m = n) → RS r b q → VPa q → (∀ v w r', Out r r' b → K (nI (acc + aW V L l m d q)) v w (sR T 3 r')) → wl_X12_worthOf_19 x y z K (m + 1) (nI acc) (nI d) (nI c) (sR T 3 r)
  | 0, d, c, acc, q, r, h1, h2, h3, hr, hq, k => by
    rw [wl_X12_worthOf_19]
    by_cases hc : n ≤ c
    · exact d_leT n c hc (k _ _ _ fun _ _ => rfl) hz
    · exact d_leF n c (by omega) (d_leT 50 d (by omega) (k _ _ _ fun _ _ => rfl)) hz
  | m + 1, d, c, acc, q, r, h1, h2, h3, hr, hq, k => by
    have hr' : RS (gA (sR T 3 r) 3) b q := by
      rw [gA_sR]
      exact hr
    rw [wl_X12_worthOf_19]
    refine d_leF n c (by omega) (d_leF 50 d (by omega) (r_last (T := sR T 3 r) h hx hr' hq ?_)) hz
    have step : ∀ t, t = nI (acc + aShown V q * aLove L l (aLast q)) → wp_X12_moves x (nI d) (sR T 3 r) (fun S => ∀ t13 : Int32, t13 = nI d + 1 → (∀ t14 : Int32, t14 = nI c + 1 → wl_X12_worthOf_19 x y z K (m + 1) t t13 t14 S)) := by
      intro t ht
      subst ht
      refine r_moves (T := sR T 3 r) h hx hr' hq rfl (by omega) fun r' hr'' ho => nm_r (nI_1 d) (nm_r (nI_1 c) ?_)
      rw [sR_sR]
      rw [gA_sR] at ho
      refine r_worth_l h hx hV hL hy hl hz hn m (d + 1) (c + 1) _ (aPass d q) r' (by omega) (by omega) (by omega) hr'' (hq.pass (by omega)) fun v w r2 ho2 => ?_
      have := k v w r2 (ho.trans ho2)
      rw [aW] at this
      rw [Nat.add_assoc]
      exact this
    refine d_nn hq.lastE (fun g1 g2 => r_shown (T := sR T 3 r) h hx hr' hq hV (d_nn hq.lastE (fun _ _ => ?_) (fun g => ?_))) (fun g => nm_r (e' := nI (acc + aShown V q * aLove L l (aLast q))) ?_ (step _ rfl))
    · have e1 : eI (aLast q) - eI (aLast q) / (10 : Int32) * (10 : Int32) = nI (aLast q % 10) := by
        rw [eI_n g1]
        exact pk_rem (d := 10) (by omega) (by omega) (by omega)
      have e3 : (4 : Int32) * y + nI (aLast q % 10) = nI (4 * l + aLast q % 10) := by
        rw [hy]
        show nI 4 * nI l + _ = _
        rw [pk_mul, nI_add]
      unfold wj_X12_worthOf_76
      rw [e1, e3, nI_clamp (by omega)]
      refine ⟨vp_in_nI (by omega) (by decide), nm_r (e' := nI (acc + aShown V q * aLove L l (aLast q))) ?_ (step _ rfl)⟩
      have e4 : gA (sR T 3 r) 2 (4 * l + aLast q % 10) = nI (aLove L l (aLast q)) := by
        unfold aLove
        rw [if_neg (by omega), gA_sRn (by decide)]
        exact (hL _ (by omega)).1
      rw [e4, pk_mul, nI_add]
    · omega
    · have e : aLove L l (aLast q) = 0 := by
        unfold aLove
        rw [if_pos g]
      rw [e, Nat.mul_zero]
      exact nI_add acc 0
theorem r_worthOf {T : St} {u p b l n t c : Nat} {x y z : Int32} {V L : Nat → Nat} {q : AP} {Q : Int32 → St → Prop} (h : At T u p b) (hx : x = nI p) (hV : NR (gA T 1) V 200 99) (hL : NR (gA T 2) L 12 9) (ht : gA T 3 u = nI t) (ht5 : t ≤ 50) (hy : y = nI l) (hl : l < 3) (hz : z = nI n) (hn : n ≤ 20) (hc : c = min n (50 - t)) (hr : RS (gA T 3) b q) (hq : VPa q) (k : ∀ r', Out (gA T 3) r' b → Q (nI (aW V L l c t q)) (sR T 3 r')) : wp_X12_worthOf x y z T Q := by
  obtain ⟨hu, hb, hb2⟩ := h
  unfold wp_X12_worthOf
  have e0 : gI T 0 3 + (0 : Int32) = nI u := by
    rw [hu]
    exact nI_add u 0
  rw [e0, nI_clamp (by omega), ht]
  refine ⟨vp_in_nI (by omega) (by decide), nm_e ⟨c + 1, ?_⟩⟩
  have e : T = sR T 3 (gA T 3) := sR_self.symm
  rw [e]
  refine r_worth_l (T := T) ⟨hu, hb, hb2⟩ hx hV hL hy hl hz hn c t 0 0 q _ (by omega) (by omega) (by omega) hr hq fun v w r' ho => ?_
  have := k r' ho
  rw [Nat.zero_add]
  exact this
