/-! WHAT IS READ. .inr p: well so far, on at p; .inl f: a fault at f. -/
abbrev PS : Type := Nat ⊕ Nat
abbrev WD : Type := (Nat → Nat) × (Nat → Nat) × Nat × Nat × (Nat → Nat × Nat × Nat)
def aN (B : Nat → Nat) (len lo hi : Nat) : PS → PS
  | .inl f => .inl f
  | .inr p => if nOk B len lo hi (sk B len p) = true then .inr (dE B len (sk B len p)) else .inl (sk B len p)
def aNv (B : Nat → Nat) (len : Nat) : PS → Nat
  | .inl _ => 0
  | .inr p => nVal B len (sk B len p)
def aIs (B : Nat → Nat) (len b : Nat) : PS → Bool
  | .inl _ => false
  | .inr p => decide (sk B len p < len ∧ B (sk B len p) = b)
def aSg (B : Nat → Nat) (len : Nat) : PS → PS
  | .inl f => .inl f
  | .inr p => .inr (sk B len p + 1)
def aFl (B : Nat → Nat) (len : Nat) : PS → PS
  | .inl f => .inl f
  | .inr p => .inl (sk B len p)
def aIw (B : Nat → Nat) (len i : Nat) : PS → Bool
  | .inl _ => false
  | .inr p => isw B len i (sk B len p)
def aWd (B : Nat → Nat) (len : Nat) : PS → PS
  | .inl f => .inl f
  | .inr p => .inr (lE B len (sk B len p))
def aNd (B : Nat → Nat) (len b : Nat) (r : PS) : PS := if aIs B len b r = true then aSg B len r else aFl B len r
def aNw (B : Nat → Nat) (len i : Nat) (r : PS) : PS := if aIw B len i r = true then aWd B len r else aFl B len r
theorem aNd_t {B : Nat → Nat} {len b : Nat} {r : PS} (h : ∀ p, r = .inr p → aIs B len b r = true) : aNd B len b r = aSg B len r := by
  cases r with
  | inl f => rfl
  | inr p => exact if_pos (h p rfl)
theorem aNd_f {B : Nat → Nat} {len b : Nat} {r : PS} (h : ∀ p, r = .inr p → aIs B len b r = false) : aNd B len b r = aFl B len r := by
  cases r with
  | inl f => rfl
  | inr p =>
    unfold aNd
    rw [h p rfl]
    rfl
theorem aNw_t {B : Nat → Nat} {len i : Nat} {r : PS} (h : ∀ p, r = .inr p → aIw B len i r = true) : aNw B len i r = aWd B len r := by
  cases r with
  | inl f => rfl
  | inr p => exact if_pos (h p rfl)
theorem aNw_f {B : Nat → Nat} {len i : Nat} {r : PS} (h : ∀ p, r = .inr p → aIw B len i r = false) : aNw B len i r = aFl B len r := by
  cases r with
  | inl f => rfl
  | inr p =>
    unfold aNw
    rw [h p rfl]
    rfl
def wAP (W : WD) (j : Nat) : AP := ((W.2.2.2.2 j).1, (W.2.2.2.2 j).2.1, (W.2.2.2.2 j).2.2, fun _ => 500)
def WV (W : WD) : Prop := W.2.2.1 ≤ 50 ∧ W.2.2.2.1 ≤ 6 ∧ ∀ j, j < W.2.2.2.1 → (W.2.2.2.2 j).1 < 6 ∧ 1 ≤ (W.2.2.2.2 j).2.1 ∧ (W.2.2.2.2 j).2.1 ≤ 16 ∧ (W.2.2.2.2 j).2.2 ≤ 4
def CWd (S : St) (w : Nat) (W : WD) : Prop := CW S w W.1 W.2.1 W.2.2.1 W.2.2.2.1 (wAP W) ∧ WV W
def wV (W : WD) (k v : Nat) : WD := (up1 W.1 k v, W.2)
def wL (W : WD) (k v : Nat) : WD := (W.1, up1 W.2.1 k v, W.2.2)
def wT (W : WD) (v : Nat) : WD := (W.1, W.2.1, v, W.2.2.2)
def wP (W : WD) (x : Nat × Nat × Nat) : WD := (W.1, W.2.1, W.2.2.1, W.2.2.2.1 + 1, up1 W.2.2.2.2 W.2.2.2.1 x)
/-- the class, reading into its world w -/
def CX (S0 : St) (w : Nat) (B : Nat → Nat) (len : Nat) (S : St) (r : PS) (W : WD) : Prop := FW w S0 S ∧ FC S ∧ ((∃ c, c ≤ 6 ∧ gI S w 3 = nI c) ∧ gI S w 5 = gI S0 w 5) ∧ (∃ a, a ≤ len ∧ gI S 1 2 = nI a ∧ ∀ p, r = .inr p → sk B len a = sk B len p) ∧ (∀ f, r = .inl f → f ≤ len ∧ gI S 1 4 = nI f) ∧ (∀ p, r = .inr p → p ≤ len ∧ gI S 1 4 = mI 1 ∧ CWd S w W)
def CE (S0 : St) (w : Nat) (B : Nat → Nat) (len : Nat) : Prop := isW w ∧ IC S0 ∧ TP B len S0
theorem FW.one {w k : Nat} {S : St} {v : Int32} (hI : IC S) (hk : k ≠ 1) : FW w S (sI S 1 k v) := by
  refine ⟨rfl, gI_sIn (by decide), ⟨gI_sIk (Ne.symm hk), rfl, by rw [gI_sIn (by decide)], rfl, rfl, rfl, rfl, by rw [gI_sIn (by decide)], rfl, fun d hd => ⟨gI_sIn (by omega), rfl, rfl⟩⟩, fun w' hw' hne => ?_⟩
  have g := hw'.lt
  refine ⟨gI_sIn (by omega), rfl, rfl, fun x hx => ⟨?_, rfl⟩⟩
  have := (hI.2.1 w' x hw' hx).1.1
  exact gI_sIn (by omega)
section CX1
variable {S0 S : St} {w : Nat} {B : Nat → Nat} {len : Nat} {r : PS} {W W' : WD} {f p p' a s q lo hi i b k v : Nat} {x y : Int32}
theorem CX.I (hE : CE S0 w B len) (h : CX S0 w B len S r W) : IC S := hE.2.1.n h.1.1
theorem CX.tp (hE : CE S0 w B len) (h : CX S0 w B len S r W) : TP B len S := by
  obtain ⟨s1, s2, -⟩ := h.1.2.2.1
  exact ⟨s1.trans hE.2.2.1, hE.2.2.2.1, by rw [s2]; exact hE.2.2.2.2⟩
theorem CX.ww (h : CX S0 w B len S r W) (e : ∀ p, r = .inr p → W = W') : CX S0 w B len S r W' := by
  obtain ⟨h1, h2, h3, h4, h5, h6⟩ := h
  refine ⟨h1, h2, h3, h4, h5, fun p hp => ?_⟩
  rw [← e p hp]
  exact h6 p hp
theorem sQ_SJ : SJ S (sQ S a s) := (SJ_I (by decide)).trans (SJ_I (by decide))
theorem CX.q0 (hE : CE S0 w B len) (h : CX S0 w B len S r W) : FW w S0 (sQ S a s) ∧ FC (sQ S a s) ∧ ((∃ c, c ≤ 6 ∧ gI (sQ S a s) w 3 = nI c) ∧ gI (sQ S a s) w 5 = gI S0 w 5) ∧ gI (sQ S a s) w = gI S w := by
  have hI := CX.I hE h
  have g := hE.1.lt
  have e : gI (sQ S a s) w = gI S w := (gI_sIn (by omega)).trans (gI_sIn (by omega))
  refine ⟨h.1.trans ((FW.one hI (by decide)).trans (FW.one (hI.n rfl) (by decide))), h.2.1.si sQ_SJ, ?_, e⟩
  rw [e]
  exact h.2.2.1
theorem CX.qf (hE : CE S0 w B len) (h : CX S0 w B len S (.inl f) W) (ha : a ≤ len) : CX S0 w B len (sQ S a s) (.inl f) W' := by
  obtain ⟨h1, h2, h3, -⟩ := CX.q0 (a := a) (s := s) hE h
  refine ⟨h1, h2, h3, ⟨a, ha, gI_sQ2, fun p hp => by cases hp⟩, fun f' hf => ?_, fun p hp => by cases hp⟩
  rw [gI_sQ4]
  exact h.2.2.2.2.1 f' hf
theorem CX.qo (hE : CE S0 w B len) (h : CX S0 w B len S (.inr p) W) (ha : a ≤ len) (hp : p' ≤ len) (e : sk B len a = sk B len p') : CX S0 w B len (sQ S a s) (.inr p') W := by
  obtain ⟨h1, h2, h3, -⟩ := CX.q0 (a := a) (s := s) hE h
  obtain ⟨g1, g2, g3⟩ := h.2.2.2.2.2 p rfl
  refine ⟨h1, h2, h3, ⟨a, ha, gI_sQ2, fun p2 hp2 => by cases hp2; exact e⟩, fun f' hf => (by cases hf), fun p2 hp2 => ?_⟩
  cases hp2
  rw [gI_sQ4]
  exact ⟨hp, g2, g3.1.si hE.1 (CX.I hE h) g3.2.2.1 sQ_SJ, g3.2⟩
theorem CX.flt (hE : CE S0 w B len) (h : CX S0 w B len S (.inr p) W) (hq : q ≤ len) : CX S0 w B len (sI S 1 4 (nI q)) (.inl q) W' := by
  have hI := CX.I hE h
  have g := hE.1.lt
  obtain ⟨a, ha, ha2, -⟩ := h.2.2.2.1
  refine ⟨h.1.trans (FW.one hI (by decide)), h.2.1.si (SJ_I (by decide)), ?_, ⟨a, ha, (gI_sIk (by decide)).trans ha2, fun p hp => by cases hp⟩, fun f' hf => ?_, fun p hp => by cases hp⟩
  · rw [gI_sIn (by omega)]
    exact h.2.2.1
  · cases hf
    exact ⟨hq, gI_sIs⟩
theorem cx_num {Q : Int32 → St → Prop} (hE : CE S0 w B len) (h : CX S0 w B len S r W) (hx : x = nI lo) (hy : y = nI hi) (hlo : lo ≤ hi) (hhi : hi ≤ 1000) (kk : ∀ S' v, lo ≤ v → v ≤ hi → (∀ p, aN B len lo hi r = .inr p → v = aNv B len r) → gI S' w = gI S w → CX S0 w B len S' (aN B len lo hi r) W → Q (nI v) S') : wp_X4_readNumber x y S Q := by
  have hT := CX.tp hE h
  have hl := hT.2.1
  have g := hE.1.lt
  obtain ⟨a, ha, ha2, ha3⟩ := h.2.2.2.1
  have hsl := sk_le (B := B) ha
  have hdl : dE B len (sk B len a) ≤ len := en_le hsl
  have e4 := (CX.q0 (a := dE B len (sk B len a)) (s := sk B len a) hE h).2.2.2
  refine c_num hT ha2 ha hx hy hhi hlo (fun e => ?_) (fun e => ?_)
  · have ev := of_decide_eq_true e
    cases r with
    | inl f => exact kk _ _ ev.2.1 ev.2.2 (fun p hp => by cases hp) e4 (h.qf hE hdl)
    | inr p =>
      have e3 := ha3 p rfl
      have eN : aN B len lo hi (.inr p) = .inr (dE B len (sk B len a)) := by
        rw [e3] at e ⊢
        exact if_pos e
      refine kk _ _ ev.2.1 ev.2.2 (fun p' _ => by rw [e3]; rfl) e4 ?_
      rw [eN]
      exact h.qo hE hdl hdl rfl
  · cases r with
    | inl f =>
      have hf := h.2.2.2.2.1 f rfl
      refine c_fail_f (f := f) (gI_sQ4.trans hf.2) (by omega) ?_
      rw [hx]
      exact kk _ lo (Nat.le_refl _) hlo (fun p hp => by cases hp) e4 (h.qf hE hdl)
    | inr p =>
      have e3 := ha3 p rfl
      have eN : aN B len lo hi (.inr p) = .inl (sk B len a) := by
        rw [e3] at e ⊢
        exact if_neg (by rw [e]; decide)
      refine c_fail_o (gI_sQ4.trans (h.2.2.2.2.2 p rfl).2.1) gI_sQ3 ?_
      rw [hx]
      refine kk _ lo (Nat.le_refl _) hlo (fun p' hp => by rw [eN] at hp; cases hp) ((gI_sIn (by omega)).trans e4) ?_
      rw [eN]
      exact (h.qo hE hdl hdl rfl).flt hE hsl
theorem cx_word {Q : Int32 → St → Prop} (hE : CE S0 w B len) (h : CX S0 w B len S r W) (hi : i < 11) (k1 : (∀ p, r = .inr p → aIw B len i r = true) → ∀ S', CX S0 w B len S' (aWd B len r) W → (∀ p, r = .inr p → gI S' 1 3 = nI (sk B len p)) → Q 1 S') (k0 : (∀ p, r = .inr p → aIw B len i r = false) → ∀ S', CX S0 w B len S' r W → (∀ p, r = .inr p → gI S' 1 3 = nI (sk B len p)) → Q 0 S') : wp_X4_isWord i S Q := by
  have hT := CX.tp hE h
  obtain ⟨a, ha, ha2, ha3⟩ := h.2.2.2.1
  have hsl := sk_le (B := B) ha
  have hdl : lE B len (sk B len a) ≤ len := en_le hsl
  refine c_word hT ha2 ha hi (fun e => ?_) (fun e => ?_)
  · cases r with
    | inl f => exact k1 (fun p hp => by cases hp) _ (h.qf hE hdl) (fun p hp => by cases hp)
    | inr p =>
      have e3 := ha3 p rfl
      rw [e3] at e hdl ⊢
      exact k1 (fun p' _ => e) _ (h.qo hE hdl hdl rfl) (fun p' hp => by cases hp; exact gI_sQ3)
  · cases r with
    | inl f => exact k0 (fun p hp => by cases hp) _ (h.qf hE hsl) (fun p hp => by cases hp)
    | inr p =>
      have e3 := ha3 p rfl
      rw [e3] at e hsl ⊢
      exact k0 (fun p' _ => e) _ (h.qo hE hsl ((h.2.2.2.2.2 p rfl).1) sk_sk) (fun p' hp => by cases hp; exact gI_sQ3)
theorem cx_sign {Q : Int32 → St → Prop} (hE : CE S0 w B len) (h : CX S0 w B len S r W) (hx : x = nI b) (hb : b < 256) (k1 : (∀ p, r = .inr p → aIs B len b r = true) → ∀ S', CX S0 w B len S' (aSg B len r) W → Q 1 S') (k0 : (∀ p, r = .inr p → aIs B len b r = false) → ∀ S', CX S0 w B len S' r W → (∀ p, r = .inr p → gI S' 1 3 = nI (sk B len p)) → Q 0 S') : wp_X4_isSign x S Q := by
  have hT := CX.tp hE h
  obtain ⟨a, ha, ha2, ha3⟩ := h.2.2.2.1
  have hsl := sk_le (B := B) ha
  refine c_sign hT ha2 ha hx hb (fun e1 e2 => ?_) (fun e => ?_)
  · cases r with
    | inl f => exact k1 (fun p hp => by cases hp) _ (h.qf hE (by omega))
    | inr p =>
      have e3 := ha3 p rfl
      rw [e3] at e1 e2 ⊢
      exact k1 (fun p' _ => decide_eq_true ⟨e1, e2⟩) _ (h.qo hE (by omega) (by omega) rfl)
  · cases r with
    | inl f => exact k0 (fun p hp => by cases hp) _ (h.qf hE hsl) (fun p hp => by cases hp)
    | inr p =>
      have e3 := ha3 p rfl
      rw [e3] at e hsl ⊢
      exact k0 (fun p' _ => decide_eq_false e) _ (h.qo hE hsl ((h.2.2.2.2.2 p rfl).1) sk_sk) (fun p' hp => by cases hp; exact gI_sQ3)
theorem cx_look {Q : St → Prop} (hE : CE S0 w B len) (h : CX S0 w B len S r W) (kk : ∀ S', CX S0 w B len S' r W → (∀ p, r = .inr p → gI S' 1 3 = nI (sk B len p) ∧ gI S' 1 2 = nI (sk B len p)) → Q S') : wp_X4_look S Q := by
  have hT := CX.tp hE h
  obtain ⟨a, ha, ha2, ha3⟩ := h.2.2.2.1
  have hsl := sk_le (B := B) ha
  refine c_look hT ha2 ha ?_
  cases r with
  | inl f => exact kk _ (h.qf hE hsl) (fun p hp => by cases hp)
  | inr p =>
    have e3 := ha3 p rfl
    rw [e3] at hsl ⊢
    exact kk _ (h.qo hE hsl ((h.2.2.2.2.2 p rfl).1) sk_sk) (fun p' hp => by cases hp; exact ⟨gI_sQ3, gI_sQ2⟩)
theorem cx_fail {Q : St → Prop} (hE : CE S0 w B len) (h : CX S0 w B len S r W) (h3 : ∀ p, r = .inr p → gI S 1 3 = nI (sk B len p)) (kk : ∀ S', CX S0 w B len S' (aFl B len r) W → Q S') : wp_X4_fail S Q := by
  have hl := hE.2.2.2.1
  cases r with
  | inl f =>
    have hf := h.2.2.2.2.1 f rfl
    exact c_fail_f hf.2 (by omega) (kk _ h)
  | inr p =>
    have hp := h.2.2.2.2.2 p rfl
    exact c_fail_o hp.2.1 (h3 p rfl) (kk _ (h.flt hE (sk_le hp.1)))
theorem cx_needSign {Q : St → Prop} (hE : CE S0 w B len) (h : CX S0 w B len S r W) (hx : x = nI b) (hb : b < 256) (kk : ∀ S', CX S0 w B len S' (aNd B len b r) W → Q S') : wp_X4_needSign x S Q := by
  unfold wp_X4_needSign
  refine cx_sign hE h hx hb (fun e S' h' => d_1 (kk S' ?_)) (fun e S' h' h3 => d_0 (cx_fail hE h' h3 fun S2 h2 => kk S2 ?_))
  · rw [aNd_t e]
    exact h'
  · rw [aNd_f e]
    exact h2
theorem cx_needWord {Q : St → Prop} (hE : CE S0 w B len) (h : CX S0 w B len S r W) (hi : i < 11) (kk : ∀ S', CX S0 w B len S' (aNw B len i r) W → Q S') : wp_X4_needWord i S Q := by
  unfold wp_X4_needWord
  refine ⟨hi, cx_word hE h hi (fun e S' h' _ => d_1 (kk S' ?_)) (fun e S' h' h3 => d_0 (cx_fail hE h' h3 fun S2 h2 => kk S2 ?_))⟩
  · rw [aNw_t e]
    exact h'
  · rw [aNw_f e]
    exact h2
/-! what is written into the world -/
theorem CX.upd {S' : St} (h : CX S0 w B len S r W) (hf : FW w S0 S') (hF : FC S') (hc : (∃ c, c ≤ 6 ∧ gI S' w 3 = nI c) ∧ gI S' w 5 = gI S0 w 5) (h1 : gI S' 1 = gI S 1) (hW : ∀ p, r = .inr p → CWd S w W → CWd S' w W') : CX S0 w B len S' r W' := by
  refine ⟨hf, hF, hc, by rw [h1]; exact h.2.2.2.1, by rw [h1]; exact h.2.2.2.2.1, fun p hp => ?_⟩
  rw [h1]
  obtain ⟨g1, g2, g3⟩ := h.2.2.2.2.2 p hp
  exact ⟨g1, g2, hW p hp g3⟩
theorem CX.setV (hE : CE S0 w B len) (h : CX S0 w B len S r W) (hv : v ≤ 99) : CX S0 w B len (sA S (w + 1) k (nI v)) r (wV W k v) := by
  have hI := CX.I hE h
  have g := hE.1.lt
  have hfw : FW w S (sA S (w + 1) k (nI v)) := FW.r hI hE.1 (Or.inl rfl)
  refine h.upd (h.1.trans hfw) h.2.1 h.2.2.1 rfl fun p hp hc => ⟨⟨?_, ?_, hc.1.2.2.1, hc.1.2.2.2.1, fun j hj => ?_⟩, hc.2⟩
  · rw [gA_sA]
    exact hc.1.1.set rfl hv
  · rw [gA_sAn (by omega)]
    exact hc.1.2.1
  · show RC (gI S (gN S (w + 3) j)) (gA (sA S (w + 1) k (nI v)) (gN S (w + 3) j + 1)) _
    have := (hI.2.1 w j hE.1 (by have h6 := hc.2.2.1; have hj' : j < W.2.2.2.1 := hj; omega)).1.1
    rw [gA_sAn (by omega)]
    exact hc.1.2.2.2.2 j hj
theorem CX.setL (hE : CE S0 w B len) (h : CX S0 w B len S r W) (hv : v ≤ 9) : CX S0 w B len (sA S (w + 2) k (nI v)) r (wL W k v) := by
  have hI := CX.I hE h
  have g := hE.1.lt
  have hfw : FW w S (sA S (w + 2) k (nI v)) := FW.r hI hE.1 (Or.inr rfl)
  refine h.upd (h.1.trans hfw) h.2.1 h.2.2.1 rfl fun p hp hc => ⟨⟨?_, ?_, hc.1.2.2.1, hc.1.2.2.2.1, fun j hj => ?_⟩, hc.2⟩
  · rw [gA_sAn (by omega)]
    exact hc.1.1
  · rw [gA_sA]
    exact hc.1.2.1.set rfl hv
  · show RC (gI S (gN S (w + 3) j)) (gA (sA S (w + 2) k (nI v)) (gN S (w + 3) j + 1)) _
    have := (hI.2.1 w j hE.1 (by have h6 := hc.2.2.1; have hj' : j < W.2.2.2.1 := hj; omega)).1.1
    rw [gA_sAn (by omega)]
    exact hc.1.2.2.2.2 j hj
theorem CX.setT (hE : CE S0 w B len) (h : CX S0 w B len S r W) (hv : v ≤ 50) : CX S0 w B len (sI S w 4 (nI v)) r (wT W v) := by
  have hI := CX.I hE h
  have g := hE.1.lt
  refine h.upd (h.1.trans (FW.i hI hE.1)) (FC_I h.2.1 (by omega)) ?_ (gI_sIn (by omega)) fun p hp hc => ⟨⟨hc.1.1, hc.1.2.1, ?_, gI_sIs, fun j hj => ?_⟩, ⟨hv, hc.2.2⟩⟩
  · exact ⟨by rw [gI_sIk (by decide)]; exact h.2.2.1.1, (gI_sIk (by decide)).trans h.2.2.1.2⟩
  · exact (gI_sIk (by decide)).trans hc.1.2.2.1
  · show RC (gI (sI S w 4 (nI v)) (gN S (w + 3) j)) (gA S (gN S (w + 3) j + 1)) _
    have := (hI.2.1 w j hE.1 (by have h6 := hc.2.2.1; have hj' : j < W.2.2.2.1 := hj; omega)).1.1
    rw [gI_sIn (by omega)]
    exact hc.1.2.2.2.2 j hj
theorem up1_s' {α : Type} {f : Nat → α} {k : Nat} {v : α} : up1 f k v k = v := if_pos rfl
theorem CX.addP {c kd n : Nat} {i2 a2 : Nat → Int32} (hE : CE S0 w B len) (h : CX S0 w B len S r W) (hc : gI S w 3 = nI c) (hc6 : c < 6) (hr : RC i2 a2 (kd, n, 4, fun _ => 500)) (hk : kd < 6) (h1 : 1 ≤ n) (h16 : n ≤ 16) (hx : x = nI (c + 1)) : CX S0 w B len (sI (sP S (gN S (w + 3) c) i2 a2) w 3 x) r (wP W (kd, n, 4)) := by
  have hI := CX.I hE h
  have g := hE.1.lt
  have hP := (hI.2.1 w c hE.1 hc6).1
  have gP := hP.1
  have gP2 := hP.2.2
  refine h.upd (h.1.trans ((FW.p hI hE.1 hc6).trans (FW.i (hI.n rfl) hE.1))) (FC_I (h.2.1.sP hr) (by omega)) ⟨⟨c + 1, hc6, by rw [gI_sIs]; exact hx⟩, (gI_sIk (by decide)).trans (by rw [gI_sPn (by omega)]; exact h.2.2.1.2)⟩ ?_ fun p hp hw => ?_
  · rw [gI_sIn (by omega), gI_sPn (by omega)]
  · have ec : W.2.2.2.1 = c := by
      have e1 : gI S w 3 = nI W.2.2.2.1 := hw.1.2.2.1
      exact (nI_eq (by have := hw.2.2.1; omega) (by omega)).mp (e1.symm.trans hc)
    refine ⟨⟨?_, ?_, ?_, ?_, fun j hj => ?_⟩, ⟨hw.2.1, ?_, fun j hj => ?_⟩⟩
    · show NR (gA (sP S (gN S (w + 3) c) i2 a2) (w + 1)) W.1 200 99
      rw [gA_sPn (by omega)]
      exact hw.1.1
    · show NR (gA (sP S (gN S (w + 3) c) i2 a2) (w + 2)) W.2.1 12 9
      rw [gA_sPn (by omega)]
      exact hw.1.2.1
    · rw [gI_sIs, hx]
      show nI (c + 1) = nI (W.2.2.2.1 + 1)
      rw [ec]
    · rw [gI_sIk (by decide), gI_sPn (by omega)]
      exact hw.1.2.2.2.1
    · have hj' : j < W.2.2.2.1 + 1 := hj
      have hP' := (hI.2.1 w j hE.1 (by omega)).1
      have gP' := hP'.1
      have gP2' := hP'.2.2
      show RC (gI (sI (sP S (gN S (w + 3) c) i2 a2) w 3 x) (gN S (w + 3) j)) (gA (sP S (gN S (w + 3) c) i2 a2) (gN S (w + 3) j + 1)) (wAP (wP W (kd, n, 4)) j)
      rw [gI_sIn (by omega)]
      by_cases e : j = c
      · subst e
        rw [gI_sP, gA_sP]
        unfold wAP wP
        rw [ec]
        show RC i2 a2 ((up1 W.2.2.2.2 j (kd, n, 4) j).1, (up1 W.2.2.2.2 j (kd, n, 4) j).2.1, (up1 W.2.2.2.2 j (kd, n, 4) j).2.2, fun _ => 500)
        rw [u1_s]
        exact hr
      · have ne : gN S (w + 3) j ≠ gN S (w + 3) c := fun z => e (hI.2.2 w j w c hE.1 hE.1 (by omega) hc6 z).2
        rw [gI_sPn ne, gA_sPn (by omega)]
        unfold wAP wP
        rw [ec]
        show RC (gI S (gN S (w + 3) j)) (gA S (gN S (w + 3) j + 1)) ((up1 W.2.2.2.2 c (kd, n, 4) j).1, (up1 W.2.2.2.2 c (kd, n, 4) j).2.1, (up1 W.2.2.2.2 c (kd, n, 4) j).2.2, fun _ => 500)
        rw [u1_n e]
        exact hw.1.2.2.2.2 j (by omega)
    · show W.2.2.2.1 + 1 ≤ 6
      omega
    · have hj' : j < W.2.2.2.1 + 1 := hj
      show (up1 W.2.2.2.2 W.2.2.2.1 (kd, n, 4) j).1 < 6 ∧ 1 ≤ (up1 W.2.2.2.2 W.2.2.2.1 (kd, n, 4) j).2.1 ∧ (up1 W.2.2.2.2 W.2.2.2.1 (kd, n, 4) j).2.1 ≤ 16 ∧ (up1 W.2.2.2.2 W.2.2.2.1 (kd, n, 4) j).2.2 ≤ 4
      by_cases e : j = W.2.2.2.1
      · rw [e, u1_s]
        exact ⟨hk, h1, h16, Nat.le_refl _⟩
      · rw [u1_n e]
        exact hw.2.2.2 j (by omega)
theorem CX.place {c kd n : Nat} (hE : CE S0 w B len) (h : CX S0 w B len S r (wP W (kd, n, 4))) (hc6 : c < 6) (hc : ∀ p, r = .inr p → W.2.2.2.1 = c) (hv : v ≤ 3) : CX S0 w B len (sI S (gN S0 (w + 3) c) 4 (nI v)) r (wP W (kd, n, v)) := by
  have hI := CX.I hE h
  have g := hE.1.lt
  rw [← h.1.1]
  have hP := (hI.2.1 w c hE.1 hc6).1
  have gP := hP.1
  have gP2 := hP.2.2
  have e0 : sI S (gN S (w + 3) c) 4 (nI v) = sP S (gN S (w + 3) c) (up1 (gI S (gN S (w + 3) c)) 4 (nI v)) (gA S (gN S (w + 3) c + 1)) := sI_P
  rw [e0]
  have hfc : FC (sP S (gN S (w + 3) c) (up1 (gI S (gN S (w + 3) c)) 4 (nI v)) (gA S (gN S (w + 3) c + 1))) := by
    intro P hP'
    by_cases e : P = gN S (w + 3) c
    · subst e
      rw [gI_sP, u1_n (by decide)]
      exact h.2.1 _ hP'
    · rw [gI_sPn e]
      exact h.2.1 P hP'
  refine h.upd (h.1.trans (FW.p hI hE.1 hc6)) hfc ?_ (gI_sPn (by omega)) fun p hp hw => ?_
  · rw [gI_sPn (by omega)]
    exact h.2.2.1
  · have ec := hc p hp
    refine ⟨hw.1.setP hE.1 hP fun j hj => ?_, ⟨hw.2.1, hw.2.2.1, fun j hj => ?_⟩⟩
    · have hj' : j < W.2.2.2.1 + 1 := hj
      have hR : RC (gI S (gN S (w + 3) j)) (gA S (gN S (w + 3) j + 1)) ((up1 W.2.2.2.2 W.2.2.2.1 (kd, n, 4) j).1, (up1 W.2.2.2.2 W.2.2.2.1 (kd, n, 4) j).2.1, (up1 W.2.2.2.2 W.2.2.2.1 (kd, n, 4) j).2.2, fun _ => 500) := hw.1.2.2.2.2 j hj
      by_cases e : j = c
      · refine Or.inl ⟨by rw [e], ?_⟩
        show RC _ _ ((up1 W.2.2.2.2 W.2.2.2.1 (kd, n, v) j).1, (up1 W.2.2.2.2 W.2.2.2.1 (kd, n, v) j).2.1, (up1 W.2.2.2.2 W.2.2.2.1 (kd, n, v) j).2.2, fun _ => 500)
        rw [ec, e, u1_s] at hR ⊢
        obtain ⟨q1, q2, q3, fc, q4, q5, q6⟩ := hR
        refine ⟨?_, ?_, u1_s, fc, q4, ?_, q6⟩
        · rw [u1_n (by decide)]
          exact q1
        · rw [u1_n (by decide)]
          exact q2
        · rw [u1_n (by decide)]
          exact q5
      · refine Or.inr ⟨fun z => e (hI.2.2 w j w c hE.1 hE.1 (by omega) hc6 z).2, ?_⟩
        show ((up1 W.2.2.2.2 W.2.2.2.1 (kd, n, v) j).1, (up1 W.2.2.2.2 W.2.2.2.1 (kd, n, v) j).2.1, (up1 W.2.2.2.2 W.2.2.2.1 (kd, n, v) j).2.2, fun _ => 500) = ((up1 W.2.2.2.2 W.2.2.2.1 (kd, n, 4) j).1, (up1 W.2.2.2.2 W.2.2.2.1 (kd, n, 4) j).2.1, (up1 W.2.2.2.2 W.2.2.2.1 (kd, n, 4) j).2.2, fun _ => 500)
        rw [ec, u1_n e, u1_n e]
    · have hj' : j < W.2.2.2.1 + 1 := hj
      have hR : (up1 W.2.2.2.2 W.2.2.2.1 (kd, n, 4) j).1 < 6 ∧ 1 ≤ (up1 W.2.2.2.2 W.2.2.2.1 (kd, n, 4) j).2.1 ∧ (up1 W.2.2.2.2 W.2.2.2.1 (kd, n, 4) j).2.1 ≤ 16 ∧ (up1 W.2.2.2.2 W.2.2.2.1 (kd, n, 4) j).2.2 ≤ 4 := hw.2.2.2 j hj
      show (up1 W.2.2.2.2 W.2.2.2.1 (kd, n, v) j).1 < 6 ∧ 1 ≤ (up1 W.2.2.2.2 W.2.2.2.1 (kd, n, v) j).2.1 ∧ (up1 W.2.2.2.2 W.2.2.2.1 (kd, n, v) j).2.1 ≤ 16 ∧ (up1 W.2.2.2.2 W.2.2.2.1 (kd, n, v) j).2.2 ≤ 4
      by_cases e : j = W.2.2.2.1
      · rw [e, u1_s] at hR ⊢
        exact ⟨hR.1, hR.2.1, hR.2.2.1, by show v ≤ 4; omega⟩
      · rw [u1_n e] at hR ⊢
        exact hR
end CX1
