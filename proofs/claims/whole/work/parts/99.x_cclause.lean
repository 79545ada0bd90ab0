/-! THE CLASS'S CLAUSES -/
def aPn (B : Nat → Nat) (len k : Nat) (r : PS) (W : WD) : PS × WD := if aIw B len 6 (aN B len 1 16 r) = true then (aN B len 0 3 (aWd B len (aN B len 1 16 r)), wP W (k, aNv B len r, aNv B len (aWd B len (aN B len 1 16 r)))) else (aN B len 1 16 r, wP W (k, aNv B len r, 4))
def aPf (B : Nat → Nat) (len k s0 : Nat) (r : PS) (W : WD) : PS × WD := if W.2.2.2.1 = 6 then (.inl s0, W) else aPn B len k r W
def aVl (B : Nat → Nat) (len : Nat) : Nat → Nat → Nat → PS → WD → PS × WD
  | 0, _, _, r, W => (aFl B len r, W)
  | m + 1, pl, d, r, W => if aIs B len 44 (aN B len 0 99 r) = true then aVl B len m pl (d + 1) (aSg B len (aN B len 0 99 r)) (wV W (50 * pl + d) (aNv B len r)) else (aN B len 0 99 r, wV W (50 * pl + d) (aNv B len r))
def aVw (B : Nat → Nat) (len : Nat) (r : PS) (W : WD) : PS × WD := aVl B len (50 - aNv B len (aNw B len 7 (aN B len 0 3 r))) (aNv B len r) (aNv B len (aNw B len 7 (aN B len 0 3 r))) (aNd B len 58 (aN B len 0 49 (aNw B len 7 (aN B len 0 3 r)))) W
def aLr (B : Nat → Nat) (len : Nat) : Nat → PS → PS
  | 0, r => r
  | n + 1, r => aN B len 0 9 (aLr B len n r)
def aLW (B : Nat → Nat) (len l : Nat) : Nat → PS → WD → WD
  | 0, _, W => W
  | n + 1, r, W => wL (aLW B len l n r W) (4 * l + n) (aNv B len (aLr B len n r))
def aLv (B : Nat → Nat) (len : Nat) (r : PS) (W : WD) : PS × WD := (aLr B len 4 (aN B len 0 2 r), aLW B len (aNv B len r) 4 (aN B len 0 2 r) W)
def aTd (B : Nat → Nat) (len : Nat) (r : PS) (W : WD) : PS × WD := (aN B len 0 50 r, wT W (aNv B len r))
def aKd (B : Nat → Nat) (len : Nat) (r : PS) : Nat := if aIw B len 0 r = true then 0 else if aIw B len 1 r = true then 1 else if aIw B len 2 r = true then 2 else if aIw B len 3 r = true then 3 else if aIw B len 4 r = true then 4 else if aIw B len 5 r = true then 5 else 6
def aC0 (B : Nat → Nat) (len p : Nat) (W : WD) : PS × WD := if aKd B len (.inr p) < 6 then aPf B len (aKd B len (.inr p)) (sk B len p) (aWd B len (.inr p)) W else if aIw B len 8 (.inr p) = true then aVw B len (aWd B len (.inr p)) W else if aIw B len 9 (.inr p) = true then aLv B len (aWd B len (.inr p)) W else if aIw B len 10 (.inr p) = true then aTd B len (aWd B len (.inr p)) W else (.inl (sk B len p), W)
def aCl (B : Nat → Nat) (len p : Nat) (W : WD) : PS × WD := (aNd B len 59 (aC0 B len p W).1, (aC0 B len p W).2)
def aTx (B : Nat → Nat) (len : Nat) : Nat → PS → WD → PS × WD
  | 0, r, W => (r, W)
  | _ + 1, .inl f, W => (.inl f, W)
  | m + 1, .inr p, W => if sk B len p < len then aTx B len m (aCl B len p W).1 (aCl B len p W).2 else (.inr p, W)
/-- where all is well, on from p at least -/
def GP (r r' : PS) : Prop := ∀ p', r' = .inr p' → ∃ p, r = .inr p ∧ p ≤ p'
section GPS
variable {B : Nat → Nat} {len lo hi b i : Nat} {r r' r'' : PS} {W : WD}
theorem GP.refl (r : PS) : GP r r := fun p' h => ⟨p', h, Nat.le_refl _⟩
theorem GP.trans (h : GP r r') (h' : GP r' r'') : GP r r'' := fun p' e => by
  obtain ⟨p1, e1, l1⟩ := h' p' e
  obtain ⟨p2, e2, l2⟩ := h p1 e1
  exact ⟨p2, e2, Nat.le_trans l2 l1⟩
theorem GP_aN : GP r (aN B len lo hi r) := fun p' e => by
  cases r with
  | inl f => cases e
  | inr p =>
    refine ⟨p, rfl, ?_⟩
    rw [aN] at e
    by_cases h : nOk B len lo hi (sk B len p) = true
    · rw [if_pos h] at e
      cases e
      exact Nat.le_trans en_ge en_ge
    · rw [if_neg h] at e
      cases e
theorem GP_aWd : GP r (aWd B len r) := fun p' e => by
  cases r with
  | inl f => cases e
  | inr p =>
    cases e
    exact ⟨p, rfl, Nat.le_trans en_ge en_ge⟩
theorem GP_aSg : GP r (aSg B len r) := fun p' e => by
  cases r with
  | inl f => cases e
  | inr p =>
    cases e
    exact ⟨p, rfl, Nat.le_trans (sk_ge (B := B) (len := len)) (Nat.le_succ _)⟩
theorem aFl_n {p' : Nat} (e : aFl B len r = .inr p') : False := by
  cases r with
  | inl f => cases e
  | inr p => cases e
theorem GP_aFl : GP r (aFl B len r) := fun p' e => (aFl_n e).elim
theorem GP_aNw : GP r (aNw B len i r) := by
  unfold aNw
  by_cases h : aIw B len i r = true
  · rw [if_pos h]
    exact GP_aWd
  · rw [if_neg h]
    exact GP_aFl
theorem GP_aNd : GP r (aNd B len b r) := by
  unfold aNd
  by_cases h : aIs B len b r = true
  · rw [if_pos h]
    exact GP_aSg
  · rw [if_neg h]
    exact GP_aFl
theorem aNd_lt {p' : Nat} (e : aNd B len b r = .inr p') : ∃ p, r = .inr p ∧ p < p' := by
  unfold aNd at e
  by_cases h : aIs B len b r = true
  · rw [if_pos h] at e
    cases r with
    | inl f => cases e
    | inr p =>
      cases e
      exact ⟨p, rfl, Nat.lt_succ_of_le (sk_ge (B := B) (len := len))⟩
  · rw [if_neg h] at e
    exact (aFl_n e).elim
theorem GP_aVl : ∀ (m pl d : Nat) (r : PS) (W : WD), GP r (aVl B len m pl d r W).1
  | 0, pl, d, r, W => GP_aFl
  | m + 1, pl, d, r, W => by
    rw [aVl]
    by_cases h : aIs B len 44 (aN B len 0 99 r) = true
    · rw [if_pos h]
      exact GP_aN.trans (GP_aSg.trans (GP_aVl m pl (d + 1) _ _))
    · rw [if_neg h]
      exact GP_aN
theorem GP_aLr : ∀ (n : Nat), GP r (aLr B len n r)
  | 0 => GP.refl r
  | n + 1 => (GP_aLr n).trans GP_aN
theorem GP_aPn {k : Nat} : GP r (aPn B len k r W).1 := by
  unfold aPn
  by_cases h : aIw B len 6 (aN B len 1 16 r) = true
  · rw [if_pos h]
    exact GP_aN.trans (GP_aWd.trans GP_aN)
  · rw [if_neg h]
    exact GP_aN
theorem GP_aC0 {p : Nat} : GP (.inr p) (aC0 B len p W).1 := by
  unfold aC0
  by_cases h : aKd B len (.inr p) < 6
  · rw [if_pos h]
    unfold aPf
    by_cases h2 : W.2.2.2.1 = 6
    · rw [if_pos h2]
      exact fun p' e => by cases e
    · rw [if_neg h2]
      exact GP_aWd.trans GP_aPn
  · rw [if_neg h]
    by_cases h2 : aIw B len 8 (.inr p) = true
    · rw [if_pos h2]
      exact GP_aWd.trans (GP_aN.trans (GP_aNw.trans (GP_aN.trans (GP_aNd.trans (GP_aVl _ _ _ _ _)))))
    · rw [if_neg h2]
      by_cases h3 : aIw B len 9 (.inr p) = true
      · rw [if_pos h3]
        exact GP_aWd.trans (GP_aN.trans (GP_aLr 4))
      · rw [if_neg h3]
        by_cases h4 : aIw B len 10 (.inr p) = true
        · rw [if_pos h4]
          exact GP_aWd.trans GP_aN
        · rw [if_neg h4]
          exact fun p' e => by cases e
theorem aCl_lt {p p' : Nat} (e : (aCl B len p W).1 = .inr p') : p < p' := by
  obtain ⟨p1, e1, l1⟩ := aNd_lt e
  obtain ⟨p2, e2, l2⟩ := GP_aC0 p1 e1
  cases e2
  exact Nat.lt_of_le_of_lt l2 l1
end GPS
/-- the same, where all is well -/
def PE (z z' : PS × WD) : Prop := z.1 = z'.1 ∧ ∀ p, z.1 = .inr p → z.2 = z'.2
theorem aVl_f {B : Nat → Nat} {len f : Nat} {W : WD} : ∀ m pl d, (aVl B len m pl d (.inl f) W).1 = .inl f
  | 0, _, _ => rfl
  | _ + 1, _, _ => rfl
section CX2
variable {S0 S : St} {w : Nat} {B : Nat → Nat} {len : Nat} {r : PS} {W W' : WD} {z z' : PS × WD} {p k s0 : Nat} {x : Int32}
theorem CX.pe (h : CX S0 w B len S z.1 z.2) (e : PE z z') : CX S0 w B len S z'.1 z'.2 := by
  rw [← e.1]
  exact h.ww e.2
theorem aPn_t (h : ∀ p, aN B len 1 16 r = .inr p → aIw B len 6 (aN B len 1 16 r) = true) : PE (aN B len 0 3 (aWd B len (aN B len 1 16 r)), wP W (k, aNv B len r, aNv B len (aWd B len (aN B len 1 16 r)))) (aPn B len k r W) := by
  unfold aPn
  generalize aN B len 1 16 r = r1 at h ⊢
  cases r1 with
  | inl f => exact ⟨rfl, fun p hp => by cases hp⟩
  | inr p =>
    rw [if_pos (h p rfl)]
    exact ⟨rfl, fun _ _ => rfl⟩
theorem aPn_f (h : ∀ p, aN B len 1 16 r = .inr p → aIw B len 6 (aN B len 1 16 r) = false) : aPn B len k r W = (aN B len 1 16 r, wP W (k, aNv B len r, 4)) := by
  unfold aPn
  generalize aN B len 1 16 r = r1 at h ⊢
  cases r1 with
  | inl f => rfl
  | inr p =>
    rw [h p rfl]
    rfl
theorem cx_pane {Q : St → Prop} (hE : CE S0 w B len) (h : CX S0 w B len S (.inr p) W) (h3 : gI S 1 3 = nI s0) (hs0 : s0 ≤ len) (hk : k < 6) (hx : x = nI k) (kk : ∀ S', CX S0 w B len S' (aPf B len k s0 (.inr p) W).1 (aPf B len k s0 (.inr p) W).2 → Q S') : wp_X4_readPane w x S Q := by
  have hW := (h.2.2.2.2.2 p rfl).2.2
  have e3 : gI S w 3 = nI W.2.2.2.1 := hW.1.2.2.1
  have hc6 := hW.2.2.1
  have g := hE.1.lt
  unfold wp_X4_readPane wp_X10_isFull
  unfold aPf at kk
  rw [e3]
  refine ⟨hE.1, hE.1, pk_lt W.2.2.2.1 6 (fun hc => d_0 ?_) (fun hc => d_1 ?_)⟩
  · rw [if_neg (by omega)] at kk
    refine cx_num hE h (lo := 1) (hi := 16) rfl rfl (by decide) (by decide) fun S1 v hv1 hv16 hv e4 h1 => ?_
    have e5 : gI S1 w 3 = nI W.2.2.2.1 := by
      rw [e4]
      exact e3
    have hI1 := CX.I hE h1
    have hP := (hI1.2.1 w W.2.2.2.1 hE.1 hc).1
    have gP := hP.1
    obtain ⟨fc, hf, hfc⟩ := h1.2.1 _ hP
    unfold wp_X10_addPane
    rw [e5, nI_clamp (by omega)]
    refine ⟨hE.1, vp_in_nI (by omega) (by decide), nm_e ⟨hP, c_become hP hf hfc hx rfl hv16 fun i2 a2 hr => nm_e ⟨hP, ?_⟩⟩⟩
    have h2 := CX.addP (x := gI (sP S1 (gN S1 (w + 3) W.2.2.2.1) i2 a2) w 3 + 1) hE h1 e5 hc hr hk hv1 hv16 (by rw [gI_sPn (by omega), e5]; exact nI_1 _)
    refine cx_word hE h2 (by decide) (fun e S5 h5 _ => d_1 ?_) (fun e S5 h5 _ => d_0 (kk S5 ?_))
    · refine cx_num hE h5 (lo := 0) (hi := 3) rfl rfl (by decide) (by decide) fun S6 v2 _ hv3 hv2 _ h6 => nm_e (kk _ ?_)
      have h7 := h6.place (v := v2) hE hc (fun _ _ => rfl) hv3
      rw [show gN S0 (w + 3) W.2.2.2.1 = gN S1 (w + 3) W.2.2.2.1 by rw [h1.1.1]] at h7
      refine (h7.ww (W' := wP W (k, aNv B len (.inr p), aNv B len (aWd B len (aN B len 1 16 (.inr p))))) fun p' hp' => ?_).pe (aPn_t e)
      obtain ⟨p1, q1, -⟩ := GP_aN p' hp'
      obtain ⟨p2, q2, -⟩ := GP_aWd p1 q1
      rw [hv p2 q2, hv2 p' hp']
    · rw [aPn_f e]
      refine h5.ww fun p' hp' => ?_
      rw [hv p' hp']
  · rw [if_pos (by omega)] at kk
    exact c_fail_o ((h.2.2.2.2.2 p rfl).2.1) h3 (kk _ (h.flt hE hs0))
theorem cx_vl_x {Q : St → Prop} {K : Int32 → Int32 → St → Prop} {y : Int32} (k : K y 0 S) (m : Nat) : wl_X4_readView_30 w x K (m + 1) y 0 S := by
  rw [wl_X4_readView_30]
  exact br_t rfl k
theorem cx_vl {Q : St → Prop} (hE : CE S0 w B len) {pl : Nat} (hpl : pl ≤ 3) (hx : x = nI pl) : ∀ (m d : Nat) (S : St) (r : PS) (W : WD), d + m = 50 → CX S0 w B len S r W → (∀ S', CX S0 w B len S' (aVl B len m pl d r W).1 (aVl B len m pl d r W).2 → Q S') → wl_X4_readView_30 w x (fun _ e4 S20 => ((e4 = 0 → Q S20) ∧ (¬ e4 = 0 → wp_X4_look S20 (fun S22 => wp_X4_fail S22 (fun S23 => Q S23))))) (m + 1) (nI d) 1 S
  | 0, d, S, r, W, hd, h, kk => by
    rw [wl_X4_readView_30]
    refine d_1 (d_leT 50 d (by omega) (d_1 (cx_look hE h fun S1 h1 g1 => cx_fail hE h1 (fun p hp => (g1 p hp).1) fun S2 h2 => kk S2 h2)))
  | m + 1, d, S, r, W, hd, h, kk => by
    rw [wl_X4_readView_30]
    refine d_1 (d_leF 50 d (by omega) ?_)
    rw [hx]
    refine c_vs (cx_num hE h (lo := 0) (hi := 99) rfl rfl (by decide) (by decide) fun S1 v _ hv99 hv _ h1 => ?_)
    rw [nI_clamp (by omega)]
    refine ⟨vp_in_nI (by omega) (by decide), nm_e ?_⟩
    have h2 := (h1.setV (k := 50 * pl + d) hE hv99).ww (W' := wV W (50 * pl + d) (aNv B len r)) fun p hp => by rw [hv p hp]
    rw [← hx]
    refine cx_sign hE h2 (b := 44) rfl (by decide) (fun e S3 h3 => nm_r (nI_1 d) ?_) (fun e S3 h3 _ => nm_r (nI_1 d) ?_)
    · refine cx_vl hE hpl hx m (d + 1) S3 _ _ (by omega) h3 fun S' h' => kk S' (h'.pe ?_)
      rw [aVl]
      generalize aN B len 0 99 r = r1 at e ⊢
      cases r1 with
      | inl f => exact ⟨aVl_f _ _ _, fun p hp => by rw [show aSg B len (.inl f) = .inl f from rfl, aVl_f] at hp; cases hp⟩
      | inr p =>
        rw [if_pos (e p rfl)]
        exact ⟨rfl, fun _ _ => rfl⟩
    · refine cx_vl_x (Q := Q) (br_t rfl (kk S3 ?_)) m
      rw [aVl]
      generalize aN B len 0 99 r = r1 at e h3 ⊢
      cases r1 with
      | inl f => exact h3
      | inr p =>
        rw [e p rfl]
        exact h3
theorem cx_view {Q : St → Prop} (hE : CE S0 w B len) (h : CX S0 w B len S r W) (kk : ∀ S', CX S0 w B len S' (aVw B len r W).1 (aVw B len r W).2 → Q S') : wp_X4_readView w S Q := by
  unfold wp_X4_readView
  refine ⟨hE.1, cx_num hE h (lo := 0) (hi := 3) rfl rfl (by decide) (by decide) fun S1 v _ hv3 hv _ h1 => cx_needWord hE h1 (by decide) fun S2 h2 => cx_num hE h2 (lo := 0) (hi := 49) rfl rfl (by decide) (by decide) fun S3 d _ hd49 hd _ h3 => cx_needSign hE h3 (b := 58) rfl (by decide) fun S4 h4 => ⟨50 - d + 1, ?_⟩⟩
  refine cx_vl hE hv3 rfl (50 - d) d S4 _ W (by omega) h4 fun S' h' => kk S' (h'.pe ?_)
  unfold aVw
  cases hr : aNd B len 58 (aN B len 0 49 (aNw B len 7 (aN B len 0 3 r))) with
  | inl f => exact ⟨by rw [aVl_f, aVl_f], fun p hp => by rw [aVl_f] at hp; cases hp⟩
  | inr p =>
    obtain ⟨p1, q1, -⟩ := GP_aNd p hr
    obtain ⟨p2, q2, -⟩ := GP_aN p1 q1
    obtain ⟨p3, q3, -⟩ := GP_aNw p2 q2
    rw [hd p1 q1, hv p3 q3]
    exact ⟨rfl, fun _ _ => rfl⟩
theorem aLW_ok {l l' : Nat} {r : PS} (e : ∀ p, r = .inr p → l = l') : ∀ n p, aLr B len n r = .inr p → aLW B len l n r W = aLW B len l' n r W
  | 0, p, _ => rfl
  | n + 1, p, hp => by
    obtain ⟨p1, q1, -⟩ := GP_aN (lo := 0) (hi := 9) p hp
    obtain ⟨p2, q2, -⟩ := GP_aLr n p1 q1
    rw [aLW, aLW, aLW_ok e n p1 q1, e p2 q2]
theorem cx_love_l {K : Int32 → St → Prop} {l : Nat} {r1 : PS} {W0 : WD} (hE : CE S0 w B len) (hl : l ≤ 2) (hx : x = nI l) (kk : ∀ y S', CX S0 w B len S' (aLr B len 4 r1) (aLW B len l 4 r1 W0) → K y S') : ∀ (m n : Nat) (S : St), n + m = 4 → CX S0 w B len S (aLr B len n r1) (aLW B len l n r1 W0) → wl_X4_readLove_9 w x K (m + 1) (nI n) S
  | 0, n, S, hn, h => by
    have e : n = 4 := by omega
    subst e
    rw [wl_X4_readLove_9]
    exact d_leT 4 4 (Nat.le_refl _) (kk _ S h)
  | m + 1, n, S, hn, h => by
    rw [wl_X4_readLove_9]
    refine d_leF 4 n (by omega) ?_
    rw [hx]
    refine c_ls (cx_num hE h (lo := 0) (hi := 9) rfl rfl (by decide) (by decide) fun S1 v _ hv9 hv _ h1 => ?_)
    rw [nI_clamp (by omega)]
    refine ⟨vp_in_nI (by omega) (by decide), nm_e (nm_r (nI_1 n) ?_)⟩
    rw [← hx]
    refine cx_love_l hE hl hx kk m (n + 1) _ (by omega) ?_
    refine (h1.setL (k := 4 * l + n) hE hv9).ww fun p hp => ?_
    rw [hv p hp]
    rfl
theorem cx_love {Q : St → Prop} (hE : CE S0 w B len) (h : CX S0 w B len S r W) (kk : ∀ S', CX S0 w B len S' (aLv B len r W).1 (aLv B len r W).2 → Q S') : wp_X4_readLove w S Q := by
  unfold wp_X4_readLove
  refine ⟨hE.1, cx_num hE h (lo := 0) (hi := 2) rfl rfl (by decide) (by decide) fun S1 v _ hv2 hv _ h1 => ⟨4 + 1, ?_⟩⟩
  refine cx_love_l (r1 := aN B len 0 2 r) (W0 := W) hE hv2 rfl (fun _ S' h' => kk S' ?_) 4 0 S1 (by decide) h1
  exact h'.ww fun p hp => aLW_ok hv 4 p hp
theorem cx_kind {Q : Int32 → St → Prop} (hE : CE S0 w B len) (h : CX S0 w B len S (.inr p) W) (k1 : aKd B len (.inr p) < 6 → ∀ S', CX S0 w B len S' (aWd B len (.inr p)) W → gI S' 1 3 = nI (sk B len p) → Q (nI (aKd B len (.inr p))) S') (k0 : ¬ aKd B len (.inr p) < 6 → ∀ S', CX S0 w B len S' (.inr p) W → gI S' 1 3 = nI (sk B len p) → Q (-1) S') : wp_X4_readKind S Q := by
  unfold wp_X4_readKind
  unfold aKd at k1 k0
  refine cx_word hE h (by decide) (fun e S1 h1 g1 => d_1 ?_) (fun e S1 h1 g1 => d_0 ?_)
  · rw [if_pos (e p rfl)] at k1
    exact k1 (by decide) S1 h1 (g1 p rfl)
  rw [if_neg (by rw [e p rfl]; decide)] at k1 k0
  refine cx_word hE h1 (by decide) (fun e S1 h1 g1 => d_1 ?_) (fun e S1 h1 g1 => d_0 ?_)
  · rw [if_pos (e p rfl)] at k1
    exact k1 (by decide) S1 h1 (g1 p rfl)
  rw [if_neg (by rw [e p rfl]; decide)] at k1 k0
  refine cx_word hE h1 (by decide) (fun e S1 h1 g1 => d_1 ?_) (fun e S1 h1 g1 => d_0 ?_)
  · rw [if_pos (e p rfl)] at k1
    exact k1 (by decide) S1 h1 (g1 p rfl)
  rw [if_neg (by rw [e p rfl]; decide)] at k1 k0
  refine cx_word hE h1 (by decide) (fun e S1 h1 g1 => d_1 ?_) (fun e S1 h1 g1 => d_0 ?_)
  · rw [if_pos (e p rfl)] at k1
    exact k1 (by decide) S1 h1 (g1 p rfl)
  rw [if_neg (by rw [e p rfl]; decide)] at k1 k0
  refine cx_word hE h1 (by decide) (fun e S1 h1 g1 => d_1 ?_) (fun e S1 h1 g1 => d_0 ?_)
  · rw [if_pos (e p rfl)] at k1
    exact k1 (by decide) S1 h1 (g1 p rfl)
  rw [if_neg (by rw [e p rfl]; decide)] at k1 k0
  refine cx_word hE h1 (by decide) (fun e S1 h1 g1 => d_1 ?_) (fun e S1 h1 g1 => d_0 ?_)
  · rw [if_pos (e p rfl)] at k1
    exact k1 (by decide) S1 h1 (g1 p rfl)
  rw [if_neg (by rw [e p rfl]; decide)] at k0
  exact k0 (by decide) S1 h1 (g1 p rfl)
theorem cx_one {Q : St → Prop} (hE : CE S0 w B len) (h : CX S0 w B len S (.inr p) W) (kk : ∀ S', CX S0 w B len S' (aCl B len p W).1 (aCl B len p W).2 → Q S') : wp_X4_readOne w S Q := by
  have hl := hE.2.2.2.1
  have hp := (h.2.2.2.2.2 p rfl).1
  have hs := sk_le (B := B) hp
  have fin : ∀ z : PS × WD, aC0 B len p W = z → ∀ S', CX S0 w B len S' z.1 z.2 → wp_X4_needSign (59 : Int32) S' (fun S14 => Q S14) := fun z e S' h' => cx_needSign hE h' (b := 59) rfl (by decide) fun S2 h2 => kk S2 (by
    unfold aCl
    rw [e]
    exact h2)
  unfold wp_X4_readOne
  unfold aC0 at fin
  refine ⟨hE.1, cx_kind hE h (fun hk S1 h1 g1 => ?_) (fun hk S1 h1 g1 => ?_)⟩
  · rw [if_pos hk] at fin
    exact br_f (nI_pos (by omega)) (cx_pane hE h1 g1 hs hk rfl fun S2 h2 => fin _ rfl S2 h2)
  rw [if_neg hk] at fin
  refine br_t (by decide) (cx_word hE h1 (by decide) (fun e S2 h2 _ => d_1 ?_) (fun e S2 h2 _ => d_0 ?_))
  · rw [if_pos (e p rfl)] at fin
    exact cx_view hE h2 fun S3 h3 => fin _ rfl S3 h3
  rw [if_neg (by rw [e p rfl]; decide)] at fin
  refine cx_word hE h2 (by decide) (fun e S3 h3 _ => d_1 ?_) (fun e S3 h3 _ => d_0 ?_)
  · rw [if_pos (e p rfl)] at fin
    exact cx_love hE h3 fun S4 h4 => fin _ rfl S4 h4
  rw [if_neg (by rw [e p rfl]; decide)] at fin
  refine cx_word hE h3 (by decide) (fun e S4 h4 _ => d_1 ?_) (fun e S4 h4 g4 => d_0 ?_)
  · rw [if_pos (e p rfl)] at fin
    refine cx_num hE h4 (lo := 0) (hi := 50) rfl rfl (by decide) (by decide) fun S5 v _ hv50 hv _ h5 => nm_e (fin _ rfl _ ?_)
    exact (h5.setT hE hv50).ww fun p' hp' => by rw [hv p' hp']; rfl
  rw [if_neg (by rw [e p rfl]; decide)] at fin
  exact cx_fail hE h4 g4 fun S5 h5 => fin _ rfl S5 h5
theorem aTx_f {f : Nat} : ∀ m, aTx B len m (.inl f) W = (.inl f, W)
  | 0 => rfl
  | _ + 1 => rfl
theorem aTx_end (h : ¬ sk B len p < len) : ∀ m, aTx B len m (.inr p) W = (.inr p, W)
  | 0 => rfl
  | m + 1 => by
    rw [aTx]
    exact if_neg h
theorem cx_into_l {K : Int32 → St → Prop} (hE : CE S0 w B len) : ∀ (m told p : Nat) (S : St) (W : WD), len - p ≤ m → told ≤ p → CX S0 w B len S (.inr p) W → gI S 1 2 = nI (sk B len p) → (∀ y S', CX S0 w B len S' (aTx B len m (.inr p) W).1 (aTx B len m (.inr p) W).2 → K y S') → wl_X4_readInto_16 w K (m + 1) (nI told) S := by
  have hl := hE.2.2.2.1
  intro m
  induction m with
  | zero =>
    intro told p S W hm ht h h2 kk
    have hp := (h.2.2.2.2.2 p rfl)
    have hs := sk_le (B := B) hp.1
    have hg := sk_ge (B := B) (len := len) (a := p)
    have hT := CX.tp hE h
    rw [wl_X4_readInto_16, hT.1, h2]
    have fin := kk (nI told) S h
    exact pk_le 200 told (fun _ => fin) (fun _ => d_leT len (sk B len p) (by omega) fin)
  | succ m ih =>
    intro told p S W hm ht h h2 kk
    have hp := (h.2.2.2.2.2 p rfl)
    have hs := sk_le (B := B) hp.1
    have hg := sk_ge (B := B) (len := len) (a := p)
    have hT := CX.tp hE h
    have out : ¬ sk B len p < len → K (nI told) S := fun e => kk _ S (by
      rw [aTx_end e]
      exact h)
    rw [wl_X4_readInto_16, hT.1, h2, hp.2.1]
    refine pk_le 200 told (fun e => out (by omega)) (fun e => pk_le len (sk B len p) (fun e => out (by omega)) (fun e => br_f (mI_nle (by decide) (by decide) 0 (by decide)) (cx_one hE h fun S1 h1 => cx_look hE h1 fun S2 h2 g2 => nm_r (nI_1 told) ?_)))
    rw [aTx, if_pos e] at kk
    cases hz : (aCl B len p W).1 with
    | inl f =>
      rw [hz] at h2 kk
      rw [aTx_f] at kk
      have hf := h2.2.2.2.2.1 f rfl
      have fin := kk (nI (told + 1)) S2 h2
      rw [wl_X4_readInto_16, hf.2]
      exact pk_le 200 (told + 1) (fun _ => fin) (fun _ => ⟨fun _ => fin, fun _ => br_t (nI_pos' (by omega)) fin⟩)
    | inr p' =>
      have hlt := aCl_lt hz
      rw [hz] at h2 g2 kk
      exact ih (told + 1) p' S2 _ (by omega) (by omega) h2 (g2 p' rfl).2 kk
end CX2
