/-! THE REFERENCE'S OTHER CLAUSES -/
section RX2
variable {T0 T T' : St} {B : Nat → Nat} {len : Nat} {r : PS} {W W' : WD} {p f pl d k v : Nat} {x y a1 a2 : Int32}
theorem aN_fl {lo hi : Nat} : aN B len lo hi (aFl B len r) = aFl B len r := by
  cases r with
  | inl f => rfl
  | inr p => rfl
theorem RX.setV (h : RX T0 B len T r W) (hv : v ≤ 99) : RX T0 B len (sA T 5 k (nI v)) r (wV W k v) := by
  refine ⟨h.1.trans (RFm_A (by decide) (by decide)), h.2.1, fun p hp => ?_⟩
  obtain ⟨g1, g2, g3, ⟨f1, f2, f3, f4, f5, f6⟩⟩ := h.2.2 p hp
  refine ⟨g1, g2, g3, ?_, ?_, f3, f4, ?_, f6⟩
  · rw [gA_sA]
    exact f1.set rfl hv
  · rw [gA_sAn (by decide)]
    exact f2
  · rw [gA_sAn (by decide)]
    exact f5
theorem RX.setL (h : RX T0 B len T r W) (hv : v ≤ 9) : RX T0 B len (sA T 6 k (nI v)) r (wL W k v) := by
  refine ⟨h.1.trans (RFm_A (by decide) (by decide)), h.2.1, fun p hp => ?_⟩
  obtain ⟨g1, g2, g3, ⟨f1, f2, f3, f4, f5, f6⟩⟩ := h.2.2 p hp
  refine ⟨g1, g2, g3, ?_, ?_, f3, f4, ?_, f6⟩
  · rw [gA_sAn (by decide)]
    exact f1
  · rw [gA_sA]
    exact f2.set rfl hv
  · rw [gA_sAn (by decide)]
    exact f5
theorem RX.a8 {z : Int32} (h : RX T0 B len T r W) : RX T0 B len (sA T 8 k z) r W := by
  refine ⟨h.1.trans (RFm_A (by decide) (by decide)), h.2.1, fun p hp => ?_⟩
  obtain ⟨g1, g2, g3, ⟨f1, f2, f3, f4, f5, f6⟩⟩ := h.2.2 p hp
  refine ⟨g1, g2, g3, ?_, ?_, f3, f4, ?_, f6⟩
  · rw [gA_sAn (by decide)]
    exact f1
  · rw [gA_sAn (by decide)]
    exact f2
  · rw [gA_sAn (by decide)]
    exact f5
theorem RX.setT (h : RX T0 B len T r W) (hx : ∀ p, r = .inr p → x = nI v ∧ v ≤ 50) : RX T0 B len (sI T 0 14 x) r (wT W v) := by
  refine ⟨h.1.trans (RFm_I (by decide)), fun f hf => ?_, fun p hp => ?_⟩
  · obtain ⟨g1, g2, g3⟩ := h.2.1 f hf
    exact ⟨g1, (gI_sIk (by decide)).trans g2, (gI_sIk (by decide)).trans g3⟩
  · obtain ⟨g1, g2, g3, ⟨f1, f2, f3, f4, f5, f6⟩⟩ := h.2.2 p hp
    refine ⟨g1, (gI_sIk (by decide)).trans g2, ?_, f1, f2, gI_sIs.trans (hx p hp).1, (gI_sIk (by decide)).trans f4, f5, (hx p hp).2, f6.2⟩
    unfold TK
    rw [gI_sIk (S := T) (c := 0) (k := 14) (k' := 8) (v := x) (by decide), gI_sIk (S := T) (c := 0) (k := 14) (k' := 7) (v := x) (by decide), gI_sIk (S := T) (c := 0) (k := 14) (k' := 9) (v := x) (by decide), gI_sIk (S := T) (c := 0) (k := 14) (k' := 11) (v := x) (by decide)]
    exact g3
/-! views -/
theorem rx_19_0 {Q : St → Prop} (hR : RP B len T0) (h : RX T0 B len T r W) (kk : ∀ T', RX T0 B len T' (aFl B len r) W → Q T') : wj_X12_wantOneView_19 a1 a2 Q 0 T := by
  unfold wj_X12_wantOneView_19
  refine ⟨isB_0, nm_e (rx_num hR (h.fl (W' := W)) (lo := 0) (hi := 99) rfl rfl (by decide) (by decide) fun T1 v _ _ h1 => ?_)⟩
  rw [aN_fl] at h1
  exact rx_good h1 (fun f hf => kk T1 h1) (fun p hp => (aFl_n hp).elim)
theorem rx_one {Q : St → Prop} (hR : RP B len T0) (h : RX T0 B len T r W) (hv : ∀ p, r = .inr p → a1 = nI pl ∧ pl ≤ 3 ∧ a2 = nI d ∧ d ≤ 50) (k1 : d < 50 → ∀ T', RX T0 B len T' (aN B len 0 99 r) (wV W (50 * pl + d) (aNv B len r)) → Q T') (k0 : ¬ d < 50 → ∀ T', RX T0 B len T' (aFl B len r) W → Q T') : wp_X12_wantOneView a1 a2 T Q := by
  unfold wp_X12_wantOneView
  refine rx_good h (fun f hf => ?_) (fun p hp => ?_)
  · unfold wj_X12_wantOneView_18
    refine rx_19_0 hR h fun T1 h1 => ?_
    by_cases hd : d < 50
    · refine k1 hd T1 ?_
      subst hf
      exact h1.ww fun p hp => by cases hp
    · exact k0 hd T1 h1
  · obtain ⟨e1, e2, e3, e4⟩ := hv p hp
    rw [e3]
    refine pk_le 50 d (fun hd => ?_) (fun hd => ?_)
    · unfold wj_X12_wantOneView_18
      exact rx_19_0 hR h (k0 (by omega))
    · unfold wj_X12_wantOneView_19
      have h' := h
      rw [hp] at h'
      have h2 := h'.ok
      rw [← hp] at h2
      refine ⟨isB_1, nm_e (rx_num hR h2 (lo := 0) (hi := 99) rfl rfl (by decide) (by decide) fun T1 v hv2 _ h3 => rx_good h3 (fun f hf => k1 hd T1 (h3.ww fun p hp => by rw [hf] at hp; cases hp)) (fun p2 hp2 => ?_))⟩
      have eI : (50 : Int32) * a1 + nI d = nI (50 * pl + d) := by
        rw [e1]
        exact e_vs2
      rw [eI, nI_clamp (by omega), hv2 p2 hp2]
      exact ⟨vp_in_nI (by omega) (by decide), nm_e (k1 hd _ (h3.setV (aN_v hp2).2))⟩
def aVr (B : Nat → Nat) (len m pl d : Nat) (r1 : PS) (W1 : WD) : PS × WD := if aIs B len 44 r1 = true then aVl B len m pl (d + 1) (aSg B len r1) W1 else (r1, W1)
theorem rx_68_f {K : Int32 → St → Prop} (h : RX T0 B len T (.inl f) W) (k : K y T) (m : Nat) : wl_X12_wantViews_68 x K (m + 1) y T := by
  rw [wl_X12_wantViews_68]
  exact br_t (h.2.1 f rfl).2.1 k
theorem rx_68 {K : Int32 → St → Prop} (hR : RP B len T0) (hpl : pl ≤ 3) (hx : x = nI pl) : ∀ (m d : Nat) (T : St) (r1 : PS) (W1 : WD), d + m = 49 → RX T0 B len T r1 W1 → (∀ y T', RX T0 B len T' (aVr B len m pl d r1 W1).1 (aVr B len m pl d r1 W1).2 → K y T') → wl_X12_wantViews_68 x K (m + 2) (nI d) T := by
  intro m
  induction m with
  | zero =>
    intro d T r1 W1 hd h kk
    cases r1 with
    | inl f => exact rx_68_f h (kk _ T h) _
    | inr p =>
      obtain ⟨g1, g2, g3, g4⟩ := h.2.2 p rfl
      rw [wl_X12_wantViews_68]
      refine br_f (by rw [g2]; decide) (r_mark (b := 44) g3 (fun j hj => (hR.2.2 j hj).2) (by decide) rfl (fun e1 e2 => d_1 ?_) (fun e => d_0 (kk _ T ?_)))
      · have e : aIs B len 44 (.inr p) = true := decide_eq_true ⟨e1, e2⟩
        unfold aVr at kk
        rw [if_pos e] at kk
        have h9 : gI T 0 9 = nI (sk B len p + 1) := by
          rcases g3.2 with ⟨h1, h2⟩ | ⟨h1, h2, h3, h4, h5⟩ | ⟨h1, h2, h3, h4, h5⟩ | ⟨h1, h2, h3, h4, h5, h6⟩
          · omega
          · have a1 := of_decide_eq_true h2
            omega
          · have a1 := of_decide_eq_true h2
            omega
          · exact h5
        refine rx_adv hR h h9 (by omega) fun T2 _ h2 => nm_r (nI_1 d) (rx_one (pl := pl) (d := d + 1) hR h2 (fun _ _ => ⟨hx, hpl, rfl, by omega⟩) (fun hd2 => by omega) (fun _ T3 h3 => rx_68_f h3 (kk _ T3 h3) _))
      · unfold aVr
        rw [show aIs B len 44 (.inr p) = false from decide_eq_false e]
        exact h
  | succ m ih =>
    intro d T r1 W1 hd h kk
    cases r1 with
    | inl f => exact rx_68_f h (kk _ T h) _
    | inr p =>
      obtain ⟨g1, g2, g3, g4⟩ := h.2.2 p rfl
      rw [wl_X12_wantViews_68]
      refine br_f (by rw [g2]; decide) (r_mark (b := 44) g3 (fun j hj => (hR.2.2 j hj).2) (by decide) rfl (fun e1 e2 => d_1 ?_) (fun e => d_0 (kk _ T ?_)))
      · have e : aIs B len 44 (.inr p) = true := decide_eq_true ⟨e1, e2⟩
        unfold aVr at kk
        rw [if_pos e] at kk
        have h9 : gI T 0 9 = nI (sk B len p + 1) := by
          rcases g3.2 with ⟨h1, h2⟩ | ⟨h1, h2, h3, h4, h5⟩ | ⟨h1, h2, h3, h4, h5⟩ | ⟨h1, h2, h3, h4, h5, h6⟩
          · omega
          · have a1 := of_decide_eq_true h2
            omega
          · have a1 := of_decide_eq_true h2
            omega
          · exact h5
        exact rx_adv hR h h9 (by omega) fun T2 _ h2 => nm_r (nI_1 d) (rx_one (pl := pl) (d := d + 1) hR h2 (fun _ _ => ⟨hx, hpl, rfl, by omega⟩) (fun hd2 T3 h3 => ih (d + 1) T3 _ _ (by omega) h3 kk) (fun hd2 => absurd (by omega) hd2))
      · unfold aVr
        rw [show aIs B len 44 (.inr p) = false from decide_eq_false e]
        exact h
theorem rx_48 {Q : St → Prop} {r3 : Int32} (hR : RP B len T0) (h : RX T0 B len T r W) (hv : ∀ p, r = .inr p → r3 = nI pl ∧ pl ≤ 3) (kk : ∀ T', RX T0 B len T' (aNd B len 59 (aVl B len (50 - aNv B len r) pl (aNv B len r) (aNd B len 58 (aN B len 0 49 r)) W).1) (aVl B len (50 - aNv B len r) pl (aNv B len r) (aNd B len 58 (aN B len 0 49 r)) W).2 → Q T') : wj_X12_wantViews_48 r3 Q T := by
  unfold wj_X12_wantViews_48
  refine rx_num hR h (lo := 0) (hi := 49) rfl rfl (by decide) (by decide) fun T1 v hv1 _ h1 => rx_mk hR h1 (b := 58) (by decide) rfl fun T2 _ h2 => ?_
  cases hr4 : aNd B len 58 (aN B len 0 49 r) with
  | inl f =>
    rw [hr4] at h2 kk
    rw [show (aVl B len (50 - aNv B len r) pl (aNv B len r) (.inl f) W).1 = .inl f from aVl_f _ _ _] at kk
    refine rx_one (pl := 0) (d := 50) hR h2 (fun p hp => by cases hp) (fun z => by omega) fun _ T3 h3 => ⟨0 + 1, rx_68_f h3 (rx_mk hR h3 (b := 59) (by decide) rfl fun T4 _ h4 => kk T4 (h4.ww fun p hp => by cases hp)) 0⟩
  | inr p =>
    obtain ⟨p1, q1, -⟩ := GP_aNd p hr4
    obtain ⟨p2, q2, -⟩ := GP_aN p1 q1
    have hb := (aN_v q1).2
    obtain ⟨e3, e4⟩ := hv p2 q2
    rw [hr4] at h2 kk
    refine rx_one (pl := pl) (d := aNv B len r) hR h2 (fun _ _ => ⟨e3, e4, hv1 p1 q1, by omega⟩) (fun hd T3 h3 => ⟨(49 - aNv B len r) + 2, ?_⟩) (fun z => absurd (by omega) z)
    rw [hv1 p1 q1]
    refine rx_68 hR e4 e3 (49 - aNv B len r) (aNv B len r) T3 _ _ (by omega) h3 fun y T4 h4 => rx_mk hR h4 (b := 59) (by decide) rfl fun T5 _ h5 => kk T5 ?_
    have e : 50 - aNv B len r = (49 - aNv B len r) + 1 := by omega
    rw [e]
    exact h5
theorem rx_views {Q : St → Prop} (hR : RP B len T0) (h : RX T0 B len T (.inr p) W) (e : aIw B len 8 (.inr p) = true) (kk : ∀ T', RX T0 B len T' (aNd B len 59 (aVw B len (aWd B len (.inr p)) W).1) (aVw B len (aWd B len (.inr p)) W).2 → Q T') : wp_X12_wantViews T Q := by
  unfold wp_X12_wantViews
  unfold aVw at kk
  refine rx_wadv hR h (i := 8) (by decide) e fun T1 _ h1 => ?_
  generalize aWd B len (.inr p) = r0 at h1 kk
  refine rx_num hR h1 (lo := 0) (hi := 3) rfl rfl (by decide) (by decide) fun T2 v hv _ h2 => ?_
  have bad : aNw B len 7 (aN B len 0 3 r0) = aFl B len (aN B len 0 3 r0) → wj_X12_wantViews_33 v Q T2 := fun eF => by
    unfold wj_X12_wantViews_33 wj_X12_wantViews_34
    rw [eF] at kk
    exact ⟨isB_0, nm_e (br_t gI_sIs (rx_48 (pl := aNv B len r0) hR (h2.fl (W' := W)) (fun p hp => (aFl_n hp).elim) kk))⟩
  refine rx_good h2 (fun f hf => bad (aNw_f fun p hp => by rw [hf] at hp; cases hp)) (fun p1 hp1 => ?_)
  obtain ⟨g1, g2, g3, g4⟩ := h2.2.2 p1 hp1
  refine r_word (i := 7) g3 (by decide) rfl (fun e7 => d_1 ?_) (fun e7 => d_0 (bad (aNw_f fun p hp => by rw [hp1] at hp ⊢; cases hp; exact e7)))
  have eT : aNw B len 7 (aN B len 0 3 r0) = aWd B len (aN B len 0 3 r0) := aNw_t fun p hp => by rw [hp1] at hp ⊢; cases hp; exact e7
  rw [eT] at kk
  have hb := (aN_v hp1).2
  have ev := hv p1 hp1
  rw [hp1] at h2 kk
  unfold wj_X12_wantViews_34
  exact ⟨isB_1, nm_e (br_f (by rw [show gI (sI T2 0 12 1) 0 12 = 1 from gI_sIs]; decide) (rx_wadv hR h2.ok (i := 7) (by decide) e7 fun T3 _ h3 => rx_48 (pl := aNv B len r0) hR h3 (fun _ _ => ⟨ev, hb⟩) kk))⟩
/-! loves -/
theorem aLr_dn : ∀ (n k p : Nat), k ≤ n → aLr B len n r = .inr p → ∃ p', aLr B len k r = .inr p'
  | 0, k, p, hk, e => by
    have : k = 0 := by omega
    subst this
    exact ⟨p, e⟩
  | n + 1, k, p, hk, e => by
    by_cases h : k = n + 1
    · subst h
      exact ⟨p, e⟩
    · obtain ⟨p1, q1, -⟩ := GP_aN (lo := 0) (hi := 9) p e
      exact aLr_dn n k p1 (by omega) q1
theorem rx_13 {K : Int32 → St → Prop} {r1 : PS} (hR : RP B len T0) (kk : ∀ y T', RX T0 B len T' (aLr B len 4 r1) W → (∀ p, aLr B len 4 r1 = .inr p → ∀ k, k < 4 → gA T' 8 k = nI (aNv B len (aLr B len k r1))) → K y T') : ∀ (m n : Nat) (T : St), n + m = 4 → RX T0 B len T (aLr B len n r1) W → (∀ p, aLr B len n r1 = .inr p → ∀ k, k < n → gA T 8 k = nI (aNv B len (aLr B len k r1))) → wl_X12_wantLove_13 K (m + 1) (nI n) T
  | 0, n, T, hn, h, h8 => by
    have e : n = 4 := by omega
    subst e
    rw [wl_X12_wantLove_13]
    exact d_leT 4 4 (Nat.le_refl _) (kk _ T h h8)
  | m + 1, n, T, hn, h, h8 => by
    rw [wl_X12_wantLove_13]
    refine d_leF 4 n (by omega) (rx_num hR h (lo := 0) (hi := 9) rfl rfl (by decide) (by decide) fun T1 v hv eA h1 => ?_)
    rw [nI_clamp (by omega)]
    refine ⟨vp_in_nI (by omega) (by decide), nm_e (nm_r (nI_1 n) ?_)⟩
    refine rx_13 hR kk m (n + 1) _ (by omega) h1.a8 fun p hp k hk => ?_
    obtain ⟨p1, q1, -⟩ := GP_aN (lo := 0) (hi := 9) p hp
    rw [gA_sA]
    by_cases e : k = n
    · subst e
      rw [u1_s]
      exact hv p hp
    · rw [u1_n e, eA]
      exact h8 p1 q1 k (by omega)
theorem rx_45 {K : Int32 → St → Prop} {r1 r5 : PS} {l : Nat} (hR : RP B len T0) (hp : r5 = .inr p) (hl : l ≤ 2) (hx : x = nI l) (hb : ∀ k, k < 4 → aNv B len (aLr B len k r1) ≤ 9) (kk : ∀ y T', RX T0 B len T' r5 (aLW B len l 4 r1 W) → K y T') : ∀ (m n : Nat) (T : St), n + m = 4 → RX T0 B len T r5 (aLW B len l n r1 W) → (∀ k, k < 4 → gA T 8 k = nI (aNv B len (aLr B len k r1))) → wl_X12_wantLove_45 x K (m + 1) (nI n) T
  | 0, n, T, hn, h, h8 => by
    have e : n = 4 := by omega
    subst e
    rw [wl_X12_wantLove_45]
    exact d_leT 4 4 (Nat.le_refl _) (kk _ T h)
  | m + 1, n, T, hn, h, h8 => by
    have e4 : (4 : Int32) * x + nI n = nI (4 * l + n) := by
      rw [hx]
      exact e_ls2
    rw [wl_X12_wantLove_45, e4, nI_clamp (by omega), nI_clamp (by omega), h8 n (by omega)]
    refine d_leF 4 n (by omega) (br_f (by rw [(h.2.2 p hp).2.1]; decide) ⟨vp_in_nI (by omega) (by decide), vp_in_nI (by omega) (by decide), nm_e (nm_r (nI_1 n) ?_)⟩)
    refine rx_45 hR hp hl hx hb kk m (n + 1) _ (by omega) (h.setL (hb n (by omega))) fun k hk => ?_
    rw [gA_sAn (by decide)]
    exact h8 k hk
theorem rx_love {Q : St → Prop} (hR : RP B len T0) (h : RX T0 B len T (.inr p) W) (e : aIw B len 9 (.inr p) = true) (kk : ∀ T', RX T0 B len T' (aNd B len 59 (aLv B len (aWd B len (.inr p)) W).1) (aLv B len (aWd B len (.inr p)) W).2 → Q T') : wp_X12_wantLove T Q := by
  unfold wp_X12_wantLove
  unfold aLv at kk
  refine rx_wadv hR h (i := 9) (by decide) e fun T1 _ h1 => ?_
  generalize aWd B len (.inr p) = r0 at h1 kk
  refine rx_num hR h1 (lo := 0) (hi := 2) rfl rfl (by decide) (by decide) fun T2 v hv _ h2 => ⟨4 + 1, ?_⟩
  refine rx_13 (r1 := aN B len 0 2 r0) hR (fun y T3 h3 g3 => rx_mk hR h3 (b := 59) (by decide) rfl fun T4 eA h4 => ?_) 4 0 T2 (by decide) h2 (fun _ _ k hk => absurd hk (Nat.not_lt_zero k))
  cases hr : aNd B len 59 (aLr B len 4 (aN B len 0 2 r0)) with
  | inl f =>
    rw [hr] at h4 kk
    refine ⟨0 + 1, ?_⟩
    rw [wl_X12_wantLove_45]
    exact d_leF 4 0 (by decide) (br_t (h4.2.1 f rfl).2.1 (kk T4 (h4.ww fun p hp => by cases hp)))
  | inr p5 =>
    obtain ⟨p4, q4, -⟩ := GP_aNd p5 hr
    obtain ⟨p1, q1⟩ := aLr_dn 4 0 p4 (by decide) q4
    have q1' : aN B len 0 2 r0 = .inr p1 := q1
    have hl := (aN_v q1').2
    rw [hr] at h4 kk
    refine ⟨4 + 1, rx_45 (r1 := aN B len 0 2 r0) (l := aNv B len r0) hR rfl hl (hv p1 q1') (fun k hk => ?_) (fun y T5 h5 => kk T5 h5) 4 0 T4 (by decide) h4 (fun k hk => ?_)⟩
    · obtain ⟨p6, q6⟩ := aLr_dn 4 (k + 1) p4 (by omega) q4
      exact (aN_v (lo := 0) (hi := 9) q6).2
    · rw [eA]
      exact g3 p4 q4 k hk
/-! a clause; the text -/
theorem rx_clause {Q : St → Prop} (hR : RP B len T0) (h : RX T0 B len T (.inr p) W) (kk : ∀ T', RX T0 B len T' (aCl B len p W).1 (aCl B len p W).2 → Q T') : wp_X12_wantClause T Q := by
  obtain ⟨g1, g2, g3, g4⟩ := h.2.2 p rfl
  have fin : ∀ z : PS × WD, aC0 B len p W = z → ∀ T', RX T0 B len T' (aNd B len 59 z.1) z.2 → Q T' := fun z e T' h' => kk T' (by
    unfold aCl
    rw [e]
    exact h')
  unfold wp_X12_wantClause
  unfold aC0 at fin
  refine rx_kind h (fun hk => br_f (nI_pos (by omega)) (rx_kind h (fun _ => ?_) (fun hn => absurd hk hn))) (fun hk => br_t (by decide) ?_)
  · rw [if_pos hk] at fin
    have hi : ∃ i, i < 11 ∧ aIw B len i (.inr p) = true := by
      unfold aKd at hk
      by_cases c0 : aIw B len 0 (.inr p) = true
      · exact ⟨0, by decide, c0⟩
      · rw [if_neg c0] at hk
        by_cases c1 : aIw B len 1 (.inr p) = true
        · exact ⟨1, by decide, c1⟩
        · rw [if_neg c1] at hk
          by_cases c2 : aIw B len 2 (.inr p) = true
          · exact ⟨2, by decide, c2⟩
          · rw [if_neg c2] at hk
            by_cases c3 : aIw B len 3 (.inr p) = true
            · exact ⟨3, by decide, c3⟩
            · rw [if_neg c3] at hk
              by_cases c4 : aIw B len 4 (.inr p) = true
              · exact ⟨4, by decide, c4⟩
              · rw [if_neg c4] at hk
                by_cases c5 : aIw B len 5 (.inr p) = true
                · exact ⟨5, by decide, c5⟩
                · rw [if_neg c5] at hk
                  exact absurd hk (by decide)
    obtain ⟨i, hi, ei⟩ := hi
    exact rx_pane hR h hi ei hk rfl fun T1 h1 => fin _ rfl T1 h1
  · rw [if_neg hk] at fin
    refine r_word (i := 8) g3 (by decide) rfl (fun e => d_1 ?_) (fun e => d_0 ?_)
    · rw [if_pos (show aIw B len 8 (.inr p) = true from e)] at fin
      exact rx_views hR h e fun T1 h1 => fin _ rfl T1 h1
    rw [if_neg (show ¬ aIw B len 8 (.inr p) = true by rw [show aIw B len 8 (.inr p) = false from e]; decide)] at fin
    refine r_word (i := 9) g3 (by decide) rfl (fun e => d_1 ?_) (fun e => d_0 ?_)
    · rw [if_pos (show aIw B len 9 (.inr p) = true from e)] at fin
      exact rx_love hR h e fun T1 h1 => fin _ rfl T1 h1
    rw [if_neg (show ¬ aIw B len 9 (.inr p) = true by rw [show aIw B len 9 (.inr p) = false from e]; decide)] at fin
    refine r_word (i := 10) g3 (by decide) rfl (fun e => d_1 ?_) (fun e => d_0 ?_)
    · rw [if_pos (show aIw B len 10 (.inr p) = true from e)] at fin
      refine rx_wadv hR h (i := 10) (by decide) e fun T1 _ h1 => rx_num hR h1 (lo := 0) (hi := 50) rfl rfl (by decide) (by decide) fun T2 v hv _ h2 => nm_e (rx_mk hR (h2.setT (v := aNv B len (aWd B len (.inr p))) fun p' hp' => ⟨hv p' hp', (aN_v hp').2⟩) (b := 59) (by decide) rfl fun T3 _ h3 => fin _ rfl T3 h3)
    rw [if_neg (show ¬ aIw B len 10 (.inr p) = true by rw [show aIw B len 10 (.inr p) = false from e]; decide)] at fin
    exact nm_e (fin _ rfl _ h.bad)
theorem rx_text {K : St → Prop} (hR : RP B len T0) : ∀ (m p : Nat) (T : St) (W : WD), len - p ≤ m → RX T0 B len T (.inr p) W → (∀ T', RX T0 B len T' (aTx B len m (.inr p) W).1 (aTx B len m (.inr p) W).2 → K T') → wl_X12_quarry_67 K (m + 2) T := by
  intro m
  induction m with
  | zero =>
    intro p T W hm h kk
    obtain ⟨g1, g2, g3, g4⟩ := h.2.2 p rfl
    have hs := sk_le (B := B) g1
    have hg := sk_ge (B := B) (len := len) (a := p)
    rw [wl_X12_quarry_67]
    refine br_f (by rw [g2]; decide) ?_
    rcases g3.2 with ⟨h1, h2⟩ | ⟨h1, -⟩ | ⟨h1, -⟩ | ⟨h1, -⟩
    · exact br_t h2 (kk T h)
    · omega
    · omega
    · omega
  | succ m ih =>
    intro p T W hm h kk
    obtain ⟨g1, g2, g3, g4⟩ := h.2.2 p rfl
    have hs := sk_le (B := B) g1
    have hg := sk_ge (B := B) (len := len) (a := p)
    rw [wl_X12_quarry_67]
    refine br_f (by rw [g2]; decide) ?_
    by_cases hlt : sk B len p < len
    · have n7 : ¬ gI T 0 7 = 0 := by
        rcases g3.2 with ⟨h1, h2⟩ | ⟨h1, _, h2, -⟩ | ⟨h1, _, h2, -⟩ | ⟨h1, _, _, h2, -⟩
        · omega
        · rw [h2]
          decide
        · rw [h2]
          decide
        · rw [h2]
          decide
      rw [aTx, if_pos hlt] at kk
      refine br_f n7 (rx_clause hR h fun T1 h1 => ?_)
      cases hz : (aCl B len p W).1 with
      | inl f =>
        rw [hz] at h1 kk
        rw [aTx_f] at kk
        rw [wl_X12_quarry_67]
        exact br_t (h1.2.1 f rfl).2.1 (kk T1 h1)
      | inr p' =>
        have hl2 := aCl_lt hz
        rw [hz] at h1 kk
        exact ih p' T1 _ (by omega) h1 kk
    · rw [aTx_end hlt] at kk
      rcases g3.2 with ⟨h1, h2⟩ | ⟨h1, -⟩ | ⟨h1, -⟩ | ⟨h1, -⟩
      · exact br_t h2 (kk T h)
      · omega
      · omega
      · omega
end RX2
