/-! STEPS: act -/
section STH
variable {S : St} {d ci c : Nat} {x a : Int32}
theorem sTh_I (h : c ≠ d) : gI (sTh S d ci x a) c = gI S c := by
  show gI (sI (sI (sN S d 9 (ci + 2)) d 0 x) d 1 a) c = gI (sN S d 9 (ci + 2)) c
  rw [gI_sIn h, gI_sIn h]
theorem sTh_N (h : c ≠ d) : gN (sTh S d ci x a) c = gN S c := by
  show gN (sN S d 9 (ci + 2)) c = _
  exact gN_sNn h
theorem sTh_0 : gI (sTh S d ci x a) d 0 = x := by
  show gI (sI (sI (sN S d 9 (ci + 2)) d 0 x) d 1 a) d 0 = _
  rw [gI_sIk (by decide)]
  exact gI_sIs
theorem sTh_1 : gI (sTh S d ci x a) d 1 = a := gI_sIs (S := sI (sN S d 9 (ci + 2)) d 0 x)
theorem sTh_9 : gN (sTh S d ci x a) d 9 = ci + 2 := by
  show gN (sN S d 9 (ci + 2)) d 9 = _
  rw [gN_sN]
  exact u1_s
end STH
theorem Rel.clear {n : List Nat} {S T : St} (h : Rel n S T) : Rel n (sI (sI S 7 1 0) 7 2 0) (sI T 0 33 0) := by
  obtain ⟨o1, o2, o3, o4, o5⟩ := h.2.2.2.2.2
  have eI : ∀ c, c ≠ 7 → gI (sI (sI S 7 1 0) 7 2 0) c = gI S c := fun c hc => by rw [gI_sIn hc, gI_sIn hc]
  have hd : DY n n S (sI (sI S 7 1 0) 7 2 0) := DY.same fun c hc => ⟨eI c (by omega), rfl, rfl⟩
  exact h.side ((SJ_I (by decide)).trans (SJ_I (by decide))) (TS_I (by decide)) (by rw [eI 0 (by decide)]) (gI_sIk (by decide)) rfl ⟨o1.of2 (by rw [eI 1 (by decide)]) rfl (gI_sIk (by decide)) rfl, o2.of2 (by rw [eI 0 (by decide)]) rfl (gI_sIk (by decide)) rfl, o3.dy rfl hd rfl rfl rfl, o4.dy rfl rfl hd rfl rfl rfl, ⟨0, by decide, (gI_sIk (by decide)).trans gI_sIs, gI_sIs, fun j hj => absurd hj (Nat.not_lt_zero j)⟩⟩
theorem Rel.acted {n : List Nat} {S T T3 : St} {q ci : Nat} {x a z z2 : Int32} {u v : TT} {l : List Int32} (h : Rel n S T) (hq : ∀ c ∈ n, c ≠ 59 + q) (hu : TL u l) (hv : TL v l) (hi : ∀ k, k < 29 ∨ k = 35 → gI T3 0 k = gI T 0 k) (hA : gA T3 = gA T) (hL : gL T3 = gL T) : Rel (n ++ [59 + q]) (cS (sTh S (59 + q) ci x a) u z) (rS T3 v z2) := by
  obtain ⟨o1, o2, o3, o4, o5⟩ := h.2.2.2.2.2
  have eI : ∀ c, c ≠ 7 → c ≠ 59 + q → gI (cS (sTh S (59 + q) ci x a) u z) c = gI S c := fun c h1 h2 => by rw [gI_cS h1, sTh_I h2]
  have eA : ∀ c, c ≠ 8 → gA (cS (sTh S (59 + q) ci x a) u z) c = gA S c := fun c h1 => gA_cS (S := sTh S (59 + q) ci x a) h1
  have eN : ∀ c, c ≠ 59 + q → gN (cS (sTh S (59 + q) ci x a) u z) c = gN S c := fun c h1 => sTh_N (S := S) (ci := ci) (x := x) (a := a) h1
  have rI : ∀ k, k < 29 ∨ k = 35 → gI (rS T3 v z2) 0 k = gI T 0 k := fun k hk => (gI_rS (by omega) (by omega)).trans (hi k hk)
  have rA : ∀ c, c ≠ 17 → gA (rS T3 v z2) c = gA T c := fun c hc => by rw [gA_rS hc, hA]
  have rL : gL (rS T3 v z2) 13 = gL T 13 := by
    show gL T3 13 = _
    rw [hL]
  have hd : DY n (n ++ [59 + q]) S (cS (sTh S (59 + q) ci x a) u z) := ⟨fun c hc => List.mem_append_left _ hc, fun c hc hcn => ⟨eI c (by omega) (hq c hcn), eA c (by omega), eN c (hq c hcn)⟩⟩
  have he := hu.eq hv
  refine h.side ⟨fun c h1 h2 => ⟨eI c (by omega) (by omega), eA c (by omega)⟩, fun c h1 h2 => eN c (by omega), eN 0 (by omega)⟩ ⟨rI 3 (by decide), rI 4 (by decide), rA 1 (by decide), rA 2 (by decide), rA 3 (by decide)⟩ (by rw [eI 0 (by decide) (by omega)]) (rI 35 (by decide)) (rA 18 (by decide)) ⟨o1.of2 (by rw [eI 1 (by decide) (by omega)]) (eA 2 (by decide)) (rI 6 (by decide)) (rA 4 (by decide)), o2.of2 (by rw [eI 0 (by decide) (by omega)]) (eA 3 (by decide)) (rI 21 (by decide)) (rA 9 (by decide)), o3.dy (eN 4 (by omega)) hd (rA 11 (by decide)) (rA 12 (by decide)) rL, o4.dy (eA 5 (by decide)) (eN 6 (by omega)) hd (rA 14 (by decide)) (rA 15 (by decide)) (rA 16 (by decide)), ⟨u.1, hu.le, gI_cS1, ?_, fun j hj => ?_⟩⟩
  · rw [gI_rS3, he.1]
  · rw [gA_cS8, gA_rS17]
    exact he.2 j hj
theorem r_a21_0 {a1 a2 a3 q0 : Int32} {T : St} {R : Int32 → St → Prop} (h : OutR a2 0 4 ∨ OutR q0 0 6) (k : R 0 T) : wj_X12_act_21 a1 a2 a3 R q0 T := by
  unfold wj_X12_act_21
  rcases rng a2 0 4 (by omega) with b | ⟨j, g, hj, rfl⟩
  · exact r_in_b (M := 3) b (d_0 k)
  · rcases h with h | h
    · unfold OutR at h
      rw [nI_toInt (by omega)] at h
      omega
    · exact r_in_t (M := 3) (Nat.zero_le _) hj (d_1 (r_in_b (M := 5) h (d_0 k)))
theorem r_act_go {T : St} {s a k kd cnt : Nat} {x : Int32} {R : Int32 → St → Prop} (hs : s < 4) (ha : a < 4) (hk : kd < 6) (h15 : gA T 15 s = nI k) (hk6 : k < 6) (h03 : gI T 0 3 = nI 0) (hc : gA T 3 (0 + 2 + 19 * k + 1) = nI cnt) (h33 : gI T 0 33 = nI 0) (kk : ∀ v z, TL v (aL kd a (nI k) (nI cnt) []) → R (aR kd a (nI k) (nI cnt) x) (rS (sI (sI (sI (sI T 0 29 (nI kd)) 0 30 (nI k)) 0 31 (nI cnt)) 0 34 0) v z)) : wj_X12_act_21 (nI s) (nI a) x R (nI kd) T := by
  unfold wj_X12_act_21
  refine r_in_t (M := 3) (Nat.zero_le _) ha (d_1 (r_in_t (M := 5) (Nat.zero_le _) hk (d_1 (nm_e ?_))))
  rw [nI_clamp (by omega)]
  refine ⟨vp_in_nI (by omega) (by decide), nm_r (show sI (sI T 0 29 (nI kd)) 0 30 (gA (sI T 0 29 (nI kd)) 15 s) = sI (sI T 0 29 (nI kd)) 0 30 (nI k) by rw [show gA (sI T 0 29 (nI kd)) 15 s = nI k from h15]) ?_⟩
  refine r_its (T := sI (sI T 0 29 (nI kd)) 0 30 (nI k)) (u := 0) (p := k) (b := 0 + 2 + 19 * k) ⟨?_, rfl, by omega⟩ gI_sIs (k := 1) rfl (by decide) ?_
  · exact (gI_sIk (by decide)).trans ((gI_sIk (by decide)).trans h03)
  · rw [show gA (sI (sI T 0 29 (nI kd)) 0 30 (nI k)) 3 (0 + 2 + 19 * k + 1) = nI cnt from hc]
    refine nm_e (nm_e ?_)
    have hk2 : KD (sI (sI (sI (sI T 0 29 (nI kd)) 0 30 (nI k)) 0 31 (nI cnt)) 0 34 0) kd (nI k) (nI cnt) := ⟨(gI_sIk (by decide)).trans ((gI_sIk (by decide)).trans ((gI_sIk (by decide)).trans gI_sIs)), (gI_sIk (by decide)).trans ((gI_sIk (by decide)).trans gI_sIs), (gI_sIk (by decide)).trans gI_sIs⟩
    have e33 : gI (sI (sI (sI (sI T 0 29 (nI kd)) 0 30 (nI k)) 0 31 (nI cnt)) 0 34 0) 0 33 = nI 0 := (gI_sIk (by decide)).trans ((gI_sIk (by decide)).trans ((gI_sIk (by decide)).trans ((gI_sIk (by decide)).trans h33)))
    have := r_act (x := x) (R := R) hk2 hk (TL.nil (f := gA (sI (sI (sI (sI T 0 29 (nI kd)) 0 30 (nI k)) 0 31 (nI cnt)) 0 34 0) 17)) ha kk
    rw [rS_self e33 gI_sIs] at this
    exact this
theorem st_act : step_act Rel := by
  intro n S T a1 a2 a3 hn h
  have hw := h.1.w
  have h0 := h.2.2.1
  obtain ⟨V, L, t, c, p, hC⟩ := h.2.2.2.1
  have hc3 : gI S (gN S 0 8) 3 = nI c := hC.1.2.2.1
  have ht4 : gI S (gN S 0 8) 4 = nI t := hC.1.2.2.2.1
  have hc6 : c ≤ 6 := hC.2.1.2.1
  have ht5 : t ≤ 50 := hC.2.1.1
  have hr1 : gA T 3 1 = nI c := hC.2.2.2.2.1.2.1
  have hr0 : gA T 3 0 = nI t := hC.2.2.2.2.1.1
  unfold wp_X11_act
  have hR1 : Rel n (sI (sI S 7 1 0) 7 2 0) (sI T 0 33 0) := h.clear
  have h71 : gI (sI (sI S 7 1 0) 7 2 0) 7 1 = nI 0 := (gI_sIk (by decide)).trans gI_sIs
  have h72 : gI (sI (sI S 7 1 0) 7 2 0) 7 2 = 0 := gI_sIs
  have h33 : gI (sI T 0 33 0) 0 33 = nI 0 := gI_sIs
  have kr : ∀ R : Int32 → St → Prop, wp_X12_isShelf a1 (sI T 0 33 0) (fun r3 S2 => ((r3 = 0 → wj_X12_act_21 a1 a2 a3 R (-1 : Int32) S2) ∧ (¬ r3 = 0 → wp_X12_kindOn a1 S2 (fun r34 S33 => wj_X12_act_21 a1 a2 a3 R r34 S33)))) → wp_X12_act a1 a2 a3 T R := fun R k => by
    unfold wp_X12_act
    exact nm_e k
  unfold wp_X9_clear
  refine nm_e (nm_e ?_)
  generalize sI (sI S 7 1 0) 7 2 0 = S1 at hR1 h71 h72 ⊢
  generalize sI T 0 33 0 = T1 at hR1 h33 kr
  obtain ⟨V1, L1, t1, c1, p1, hC1⟩ := hR1.2.2.2.1
  have hw1 := hR1.1.w
  have hc31 : gI S1 (gN S1 0 8) 3 = nI c1 := hC1.1.2.2.1
  have hc61 := hC1.2.1.2.1
  have o9 : OutR (9 : Int32) 0 6 := Or.inr (by decide)
  have om : OutR (-1 : Int32) 0 6 := Or.inl (by decide)
  rcases rng a1 0 4 (by omega) with b | ⟨s, g1, h1, rfl⟩
  · exact c_shelf_b b (d_0 (kr _ (r_shelf_b b (d_0 (r_a21_0 (Or.inr om) ⟨rfl, hR1⟩)))))
  refine c_shelf_t h1 (d_1 ?_)
  rcases rng a2 0 4 (by omega) with b | ⟨a, g2, h2, rfl⟩
  · exact g1_b b (kr _ (r_shelf_t h1 (d_1 (r_kindOn hR1 hC1 h1 (fun _ => r_a21_0 (Or.inl b) ⟨rfl, hR1⟩) (fun _ _ _ _ _ _ _ => r_a21_0 (Or.inl b) ⟨rfl, hR1⟩) (fun _ _ _ _ _ _ => r_a21_0 (Or.inl b) ⟨rfl, hR1⟩) (fun _ _ _ _ _ _ _ _ _ => r_a21_0 (Or.inl b) ⟨rfl, hR1⟩)))))
  refine g1_t (Nat.zero_le _) h2 ?_
  rw [nI_clamp (by omega)]
  refine ⟨vp_in_nI (by omega) (by decide), ?_⟩
  have kz : (∀ k, k < c1 → gA T1 14 s = nI 0 → gA T1 15 s = nI k → False) → wp_X12_act (nI s) (nI a) a3 T (fun r1 T1 => (0 : Int32) = r1 ∧ Rel n S1 T1) := fun hf => kr _ (r_shelf_t h1 (d_1 (r_kindOn hR1 hC1 h1 (fun _ => r_a21_0 (Or.inr om) ⟨rfl, hR1⟩) (fun _ _ _ _ _ _ _ => r_a21_0 (Or.inr om) ⟨rfl, hR1⟩) (fun k z1 z2 z3 _ _ => (hf k z1 z2 z3).elim) (fun _ _ _ _ _ _ _ _ _ => r_a21_0 (Or.inr o9) ⟨rfl, hR1⟩))))
  rcases hR1.2.2.2.2.2.2.2.2.1 s h1 with ⟨e1, e2, e3⟩ | ⟨k, e1, e2, e3, e4, e5⟩ | ⟨e1, e2, e3, -⟩
  · rw [e2]
    exact c_pane_b hw1 hc31 hc61 (Or.inl (by rw [mI_toInt (by decide)]; decide)) (d_0 (kz fun k _ z2 _ => mI_ne (by decide) (by decide) 0 (by decide) (e1.symm.trans z2)))
  · rw [e4]
    by_cases hk : k < c1
    · refine c_pane_t hw1 hc31 hc61 hk (d_1 ⟨vp_in_nI (by omega) (by decide), ?_⟩)
      have hP := (hR1.1.2.1 _ k hw1 (by omega)).1
      have hv := hC1.2.1.2.2 k hk
      have hrc := hC1.1.2.2.2.2 k hk
      have hrs := hC1.2.2.2.2.1.2.2 k hk
      rw [e4]
      unfold wp_X11_thingOf
      rw [nI_clamp (by omega)]
      refine nm_e ⟨hw1, vp_in_nI (by omega) (by decide), nm_e ⟨hP, nm_r hrc.2.1 ⟨vp_in_nI (by omega) (by decide), nm_e ⟨hP, ?_⟩⟩⟩⟩
      rw [show gI S1 (gN S1 (gN S1 0 8 + 3) k) 2 = nI (p1 k).1 from hrc.1]
      have fin : ∀ (ci q : Nat) (u' : TT) (z : Int32), (∀ c ∈ n, c ≠ 59 + q) → TL u' (aL (p1 k).1 a (nI k) (nI (p1 k).2.1) []) → wp_X12_act (nI s) (nI a) a3 T (fun r1 T1 => aR (p1 k).1 a (nI k) (nI (p1 k).2.1) a3 = r1 ∧ Rel (n ++ [59 + q]) (cS (sTh S1 (59 + q) ci (nI k) (nI (p1 k).2.1)) u' z) T1) := by
        intro ci q u' z hq hu
        refine kr _ (r_shelf_t h1 (d_1 (r_kindOn hR1 hC1 h1 (fun z => ?_) (fun k' z1 z2 z3 z4 => ?_) (fun k' z1 z2 z3 _ _ => ?_) (fun z1 => ?_))))
        · exact absurd (z.1.symm.trans e2) (mI_ne (by decide) (by decide) 0 (by decide))
        · have e := (nI_eq (by omega) (by omega)).mp (e3.symm.trans z4)
          omega
        · have e := (nI_eq (by omega) (by omega)).mp (e3.symm.trans z3)
          subst e
          refine r_act_go h1 h2 hv.1 e3 e1 hR1.2.2.1 hrs.2.1 h33 fun v z' hvl => ⟨rfl, hR1.acted hq hu hvl (fun j hj => ?_) rfl rfl⟩
          rw [gI_sIk (by omega), gI_sIk (by omega), gI_sIk (by omega), gI_sIk (by omega)]
        · have e := (nI_eq (by decide) (by decide)).mp (e2.symm.trans z1)
          omega
      have self : ∀ ci q : Nat, cS (sTh S1 (59 + q) ci (nI k) (nI (p1 k).2.1)) (0, gA S1 8) 0 = sTh S1 (59 + q) ci (nI k) (nI (p1 k).2.1) := fun ci q => cS_self (S := sTh S1 (59 + q) ci (nI k) (nI (p1 k).2.1)) (by rw [sTh_I (by omega)]; exact h71) (by rw [sTh_I (by omega)]; exact h72)
      have hTH : ∀ ci q : Nat, TH (n ++ [59 + q]) (sTh S1 (59 + q) ci (nI k) (nI (p1 k).2.1)) ci (59 + q) (nI k) (nI (p1 k).2.1) := fun ci q => ⟨⟨by omega, List.mem_append_right _ List.mem_cons_self, sTh_9⟩, sTh_0, sTh_1⟩
      refine pk_eq (p1 k).1 1 (fun e q hq => ?_) (fun n1 => pk_eq (p1 k).1 2 (fun e q hq => ?_) (fun n2 => pk_eq (p1 k).1 3 (fun e q hq => ?_) (fun n3 => pk_eq (p1 k).1 4 (fun e q hq => ?_) (fun n4 => pk_eq (p1 k).1 5 (fun e q hq => ?_) (fun n5 q hq => ?_) (by rfl) (by rfl) (by have := hv.1; omega)) (by rfl) (by rfl) (by have := hv.1; omega)) (by rfl) (by rfl) (by have := hv.1; omega)) (by rfl) (by rfl) (by have := hv.1; omega)) (by rfl) (by rfl) (by have := hv.1; omega)
      · have t := t_act_c7 (x := a3) (R := fun r S' => wp_X12_act (nI s) (nI a) a3 T (fun r1 T1 => r = r1 ∧ Rel (n ++ [59 + q]) S' T1)) (hTH 7 q) (TL.nil (f := gA S1 8)) h2 (fun u' z hu => by have f := fin 7 q u' z hq; rw [e] at f; exact f hu)
        rw [self] at t
        exact Or.inr (Or.inl t)
      · have t := t_act_c1 (x := a3) (R := fun r S' => wp_X12_act (nI s) (nI a) a3 T (fun r1 T1 => r = r1 ∧ Rel (n ++ [59 + q]) S' T1)) (hTH 1 q) (TL.nil (f := gA S1 8)) h2 (fun u' z hu => by have f := fin 1 q u' z hq; rw [e] at f; exact f hu)
        rw [self] at t
        exact Or.inr (Or.inr (Or.inl t))
      · have t := t_act_c0 (x := a3) (R := fun r S' => wp_X12_act (nI s) (nI a) a3 T (fun r1 T1 => r = r1 ∧ Rel (n ++ [59 + q]) S' T1)) (hTH 0 q) (TL.nil (f := gA S1 8)) h2 (fun u' z hu => by have f := fin 0 q u' z hq; rw [e] at f; exact f hu)
        rw [self] at t
        exact Or.inr (Or.inr (Or.inr (Or.inl t)))
      · have t := t_act_c5 (x := a3) (R := fun r S' => wp_X12_act (nI s) (nI a) a3 T (fun r1 T1 => r = r1 ∧ Rel (n ++ [59 + q]) S' T1)) (hTH 5 q) (TL.nil (f := gA S1 8)) h2 (fun u' z hu => by have f := fin 5 q u' z hq; rw [e] at f; exact f hu)
        rw [self] at t
        exact Or.inr (Or.inr (Or.inr (Or.inr (Or.inl t))))
      · have t := t_act_c2 (x := a3) (R := fun r S' => wp_X12_act (nI s) (nI a) a3 T (fun r1 T1 => r = r1 ∧ Rel (n ++ [59 + q]) S' T1)) (hTH 2 q) (TL.nil (f := gA S1 8)) h2 (fun u' z hu => by have f := fin 2 q u' z hq; rw [e] at f; exact f hu)
        rw [self] at t
        exact Or.inr (Or.inr (Or.inr (Or.inr (Or.inr t))))
      · have e : (p1 k).1 = 0 := by
          have := hv.1
          omega
        have t := t_act_c8 (x := a3) (R := fun r S' => wp_X12_act (nI s) (nI a) a3 T (fun r1 T1 => r = r1 ∧ Rel (n ++ [59 + q]) S' T1)) (hTH 8 q) (TL.nil (f := gA S1 8)) h2 (fun u' z hu => by have f := fin 8 q u' z hq; rw [e] at f; exact f hu)
        rw [self] at t
        exact Or.inl t
    · refine c_pane_b hw1 hc31 hc61 (Or.inr (by rw [nI_toInt (by omega)]; omega)) (d_0 (kz fun k' z1 z2 z3 => ?_))
      have e := (nI_eq (by omega) (by omega)).mp (e3.symm.trans z3)
      omega
  · rw [e2]
    refine c_pane_b hw1 hc31 hc61 (Or.inl (by rw [mI_toInt (by decide)]; decide)) (d_0 (kz fun k _ z2 _ => ?_))
    have e := (nI_eq (by decide) (by decide)).mp (e1.symm.trans z2)
    omega
