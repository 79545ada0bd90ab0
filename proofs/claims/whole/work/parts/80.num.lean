/-! THE PURE SIDE, numbers: in-range ints are nI of a number; conditions are decided by the numbers behind. -/
def mI (n : Nat) : Int32 := -nI n
theorem d_leT {x y : Int32} {A B : Prop} (a b : Nat) (h : a ≤ b) (q : A) (hx : x = nI a := by rfl) (hy : y = nI b := by rfl) (hb : b < 2 ^ 31 := by omega) : (x ≤ y → A) ∧ (¬ x ≤ y → B) := by
  subst hx hy
  exact br_t (nI_le h hb) q
theorem d_leF {x y : Int32} {A B : Prop} (a b : Nat) (h : b < a) (q : B) (hx : x = nI a := by rfl) (hy : y = nI b := by rfl) (ha : a < 2 ^ 31 := by omega) : (x ≤ y → A) ∧ (¬ x ≤ y → B) := by
  subst hx hy
  exact br_f (nI_ge h ha) q
theorem d_ltT {x y : Int32} {A B : Prop} (a b : Nat) (h : a < b) (q : A) (hx : x = nI a := by rfl) (hy : y = nI b := by rfl) (hb : b < 2 ^ 31 := by omega) : (x < y → A) ∧ (¬ x < y → B) := by
  subst hx hy
  exact br_t (nI_lt h hb) q
theorem d_ltF {x y : Int32} {A B : Prop} (a b : Nat) (h : b ≤ a) (q : B) (hx : x = nI a := by rfl) (hy : y = nI b := by rfl) (ha : a < 2 ^ 31 := by omega) : (x < y → A) ∧ (¬ x < y → B) := by
  subst hx hy
  exact br_f (nI_nlt h ha) q
theorem d_eqT {x y : Int32} {A B : Prop} (a b : Nat) (h : a = b) (q : A) (hx : x = nI a := by rfl) (hy : y = nI b := by rfl) : (x = y → A) ∧ (¬ x = y → B) := by
  subst hx hy h
  exact br_t rfl q
theorem d_eqF {x y : Int32} {A B : Prop} (a b : Nat) (h : a ≠ b) (q : B) (hx : x = nI a := by rfl) (hy : y = nI b := by rfl) (ha : a < 2 ^ 31 := by omega) (hb : b < 2 ^ 31 := by omega) : (x = y → A) ∧ (¬ x = y → B) := by
  subst hx hy
  exact br_f (fun e => h ((nI_eq ha hb).mp e)) q
/-- a truth value that is known -/
theorem d_1 {A B : Prop} (q : B) : ((1 : Int32) = 0 → A) ∧ (¬ (1 : Int32) = 0 → B) := br_f (by decide) q
theorem d_0 {A B : Prop} (q : A) : ((0 : Int32) = 0 → A) ∧ (¬ (0 : Int32) = 0 → B) := br_t rfl q
theorem mI_toInt {a : Nat} (h : a < 2 ^ 31) : (mI a).toInt = -(a : Int) := by
  show (-nI a).toInt = _
  rw [Int32.toInt_neg, nI_toInt h]
  exact Int.bmod_eq_of_le (by omega) (by omega)
theorem mI_lt {a : Nat} (h0 : 0 < a) (h : a < 2 ^ 31) (b : Nat) (hb : b < 2 ^ 31) : mI a < nI b := by
  rw [Int32.lt_iff_toInt_lt, nI_toInt hb, mI_toInt h]
  omega
theorem mI_nle {a : Nat} (h0 : 0 < a) (h : a < 2 ^ 31) (b : Nat) (hb : b < 2 ^ 31) : ¬ nI b ≤ mI a := by
  rw [Int32.le_iff_toInt_le, nI_toInt hb, mI_toInt h]
  omega
theorem mI_ne {a : Nat} (h0 : 0 < a) (h : a < 2 ^ 31) (b : Nat) (hb : b < 2 ^ 31) : ¬ mI a = nI b := by
  intro e
  have := mI_lt h0 h b hb
  rw [e, Int32.lt_iff_toInt_lt] at this
  omega
/-! panes, as both sides see them: kind, how many, where (4: nowhere), the glimpses (500: dark, else 10 * day + place) -/
abbrev AP : Type := Nat × Nat × Nat × (Nat → Nat)
def eI (e : Nat) : Int32 := if e = 500 then mI 9 else nI e
def VE (e : Nat) : Prop := e = 500 ∨ (e < 500 ∧ e % 10 < 4)
def VPa (p : AP) : Prop := p.1 < 6 ∧ 1 ≤ p.2.1 ∧ p.2.1 ≤ 16 ∧ p.2.2.1 ≤ 4 ∧ ∀ j, j < p.2.1 → VE (p.2.2.2 j)
theorem eI_d : eI 500 = mI 9 := if_pos rfl
theorem eI_n {e : Nat} (h : e < 500) : eI e = nI e := if_neg (by omega)
theorem d_dk {e : Nat} (he : VE e) {A B : Prop} (f : e = 500 → A) (g : e < 500 → e % 10 < 4 → B) : (eI e = (-9 : Int32) → A) ∧ (¬ eI e = (-9 : Int32) → B) := by
  rcases he with rfl | ⟨h1, h2⟩
  · exact br_t eI_d (f rfl)
  · rw [eI_n h1]
    exact br_f (fun z => mI_ne (a := 9) (by decide) (by decide) e (by omega) z.symm) (g h1 h2)
theorem d_ng {e : Nat} (he : VE e) {A B : Prop} (f : e = 500 → A) (g : e < 500 → e % 10 < 4 → B) : (eI e < 0 → A) ∧ (¬ eI e < 0 → B) := by
  rcases he with rfl | ⟨h1, h2⟩
  · rw [eI_d]
    exact br_t (mI_lt (by decide) (by decide) 0 (by decide)) (f rfl)
  · rw [eI_n h1]
    exact br_f (nI_pos (by omega)) (g h1 h2)
theorem d_nn {e : Nat} (he : VE e) {A B : Prop} (f : e < 500 → e % 10 < 4 → A) (g : e = 500 → B) : (0 ≤ eI e → A) ∧ (¬ 0 ≤ eI e → B) := by
  rcases he with rfl | ⟨h1, h2⟩
  · rw [eI_d]
    exact br_f (mI_nle (by decide) (by decide) 0 (by decide)) (g rfl)
  · rw [eI_n h1]
    exact br_t (nI_pos' (by omega)) (f h1 h2)
theorem eI_eq {e f : Nat} (he : VE e) (hf : VE f) : eI e = eI f ↔ e = f := by
  refine ⟨fun h => ?_, fun h => by rw [h]⟩
  rcases he with rfl | ⟨h1, h2⟩
  · rcases hf with rfl | ⟨h3, h4⟩
    · rfl
    · rw [eI_d, eI_n h3] at h
      exact absurd h (mI_ne (by decide) (by decide) f (by omega))
  · rcases hf with rfl | ⟨h3, h4⟩
    · rw [eI_d, eI_n h1] at h
      exact absurd h.symm (mI_ne (by decide) (by decide) e (by omega))
    · rw [eI_n h1, eI_n h3] at h
      exact (nI_eq (by omega) (by omega)).mp h
abbrev aMv (k d : Nat) : Prop := (k = 1 → d % 2 = 0) ∧ (k = 2 → d % 4 = 0)
def aNew (pl d : Nat) : Nat := if pl = 4 then 500 else 10 * d + pl
def aPass (d : Nat) (p : AP) : AP := if aMv p.1 d then (p.1, p.2.1, p.2.2.1, fun j => if j = 0 then aNew p.2.2.1 d else p.2.2.2 (j - 1)) else p
theorem VE_new {pl d : Nat} (h : pl ≤ 4) (hd : d < 50) : VE (aNew pl d) := by
  unfold aNew
  by_cases h4 : pl = 4
  · rw [if_pos h4]
    exact Or.inl rfl
  · rw [if_neg h4]
    exact Or.inr ⟨by omega, by omega⟩
theorem VPa.pass {p : AP} (h : VPa p) {d : Nat} (hd : d < 50) : VPa (aPass d p) := by
  unfold aPass
  by_cases hm : aMv p.1 d
  · rw [if_pos hm]
    obtain ⟨h1, h2, h3, h4, h5⟩ := h
    refine ⟨h1, h2, h3, h4, fun j hj => ?_⟩
    show VE (if j = 0 then aNew p.2.2.1 d else p.2.2.2 (j - 1))
    by_cases hj0 : j = 0
    · rw [if_pos hj0]
      exact VE_new h4 hd
    · rw [if_neg hj0]
      have : j < p.2.1 := hj
      exact h5 _ (by omega)
  · rw [if_neg hm]
    exact h
/-! a pane's two cells, written at once -/
def sP (S : St) (P : Nat) (i a : Nat → Int32) : St := (fun c => if c = P then i else S.1 c, fun c => if c = P + 1 then a else S.2.1 c, S.2.2)
section SP
variable {S : St} {P : Nat} {i a i' a' : Nat → Int32} {k : Nat} {v : Int32}
theorem sP_self : sP S P (gI S P) (gA S (P + 1)) = S := by
  refine Prod.ext (funext fun c => ?_) (Prod.ext (funext fun c => ?_) rfl)
  · show (if c = P then gI S P else S.1 c) = S.1 c
    by_cases h : c = P
    · subst h
      exact if_pos rfl
    · exact if_neg h
  · show (if c = P + 1 then gA S (P + 1) else S.2.1 c) = S.2.1 c
    by_cases h : c = P + 1
    · subst h
      exact if_pos rfl
    · exact if_neg h
theorem gI_sP : gI (sP S P i a) P = i := if_pos rfl
theorem gA_sP : gA (sP S P i a) (P + 1) = a := if_pos rfl
theorem gI_sPn {c : Nat} (h : c ≠ P) : gI (sP S P i a) c = gI S c := if_neg h
theorem gA_sPn {c : Nat} (h : c ≠ P + 1) : gA (sP S P i a) c = gA S c := if_neg h
theorem gN_sP : gN (sP S P i a) = gN S := rfl
theorem gL_sP : gL (sP S P i a) = gL S := rfl
theorem sP_sP : sP (sP S P i a) P i' a' = sP S P i' a' := by
  refine Prod.ext (funext fun c => ?_) (Prod.ext (funext fun c => ?_) rfl)
  · show (if c = P then i' else if c = P then i else S.1 c) = if c = P then i' else S.1 c
    by_cases h : c = P
    · rw [if_pos h, if_pos h]
    · rw [if_neg h, if_neg h, if_neg h]
  · show (if c = P + 1 then a' else if c = P + 1 then a else S.2.1 c) = if c = P + 1 then a' else S.2.1 c
    by_cases h : c = P + 1
    · rw [if_pos h, if_pos h]
    · rw [if_neg h, if_neg h, if_neg h]
theorem sI_P : sI S P k v = sP S P (up1 (gI S P) k v) (gA S (P + 1)) := by
  refine Prod.ext (funext fun c => ?_) (Prod.ext (funext fun c => ?_) rfl)
  · show (if c = P then up1 (gI S P) k v else S.1 c) = if c = P then up1 (gI S P) k v else S.1 c
    rfl
  · show S.2.1 c = if c = P + 1 then gA S (P + 1) else S.2.1 c
    by_cases h : c = P + 1
    · subst h
      exact (if_pos rfl).symm
    · exact (if_neg h).symm
theorem sA_P : sA S (P + 1) k v = sP S P (gI S P) (up1 (gA S (P + 1)) k v) := by
  refine Prod.ext (funext fun c => ?_) (Prod.ext (funext fun c => ?_) rfl)
  · show S.1 c = if c = P then gI S P else S.1 c
    by_cases h : c = P
    · subst h
      exact (if_pos rfl).symm
    · exact (if_neg h).symm
  · show (if c = P + 1 then up1 (gA S (P + 1)) k v else S.2.1 c) = if c = P + 1 then up1 (gA S (P + 1)) k v else S.2.1 c
    rfl
theorem sR_P {g : Nat → Int32} : sR S (P + 1) g = sP S P (gI S P) g := by
  refine Prod.ext (funext fun c => ?_) (Prod.ext (funext fun c => ?_) rfl)
  · show S.1 c = if c = P then gI S P else S.1 c
    by_cases h : c = P
    · subst h
      exact (if_pos rfl).symm
    · exact (if_neg h).symm
  · show (if c = P + 1 then g else S.2.1 c) = if c = P + 1 then g else S.2.1 c
    rfl
theorem sI_sP : sI (sP S P i a) P k v = sP S P (up1 i k v) a := by rw [sI_P, gI_sP, gA_sP, sP_sP]
theorem sA_sP : sA (sP S P i a) (P + 1) k v = sP S P i (up1 a k v) := by rw [sA_P, gI_sP, gA_sP, sP_sP]
theorem sR_sP {g : Nat → Int32} : sR (sP S P i a) (P + 1) g = sP S P i g := by rw [sR_P, gI_sP, sP_sP]
theorem u1_s {α : Type} {f : Nat → α} {k : Nat} {v : α} : up1 f k v k = v := if_pos rfl
theorem u1_n {α : Type} {f : Nat → α} {k j : Nat} {v : α} (h : j ≠ k) : up1 f k v j = f j := if_neg h
end SP
/-- the class's pane holds an abstract one: its ring turned by its face -/
def RC (i a : Nat → Int32) (p : AP) : Prop := i 2 = nI p.1 ∧ i 3 = nI p.2.1 ∧ i 4 = nI p.2.2.1 ∧ ∃ fc : Nat, fc < 16 ∧ i 1 = nI fc ∧ ∀ j, j < p.2.1 → a ((fc + j) % 16) = eI (p.2.2.2 j)
