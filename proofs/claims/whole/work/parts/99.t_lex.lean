/-! THE TEXT: B its bytes, len how many; runs of bytes. -/
def rn (t : Nat → Bool) (len : Nat) : Nat → Nat → Nat
  | 0, p => p
  | m + 1, p => if p < len ∧ t p = true then rn t len m (p + 1) else p
def en (t : Nat → Bool) (len p : Nat) : Nat := rn t len (len - p) p
theorem rn_sp {t : Nat → Bool} {len : Nat} : ∀ (m p : Nat), len - p ≤ m → p ≤ rn t len m p ∧ (p ≤ len → rn t len m p ≤ len) ∧ (∀ j, p ≤ j → j < rn t len m p → j < len ∧ t j = true) ∧ ¬ (rn t len m p < len ∧ t (rn t len m p) = true)
  | 0, p, h => by
    rw [rn]
    exact ⟨Nat.le_refl _, fun h => h, fun j h1 h2 => by omega, fun z => by omega⟩
  | m + 1, p, h => by
    rw [rn]
    by_cases hc : p < len ∧ t p = true
    · rw [if_pos hc]
      obtain ⟨h1, h2, h3, h4⟩ := rn_sp (t := t) (len := len) m (p + 1) (by omega)
      refine ⟨by omega, fun _ => h2 (by omega), fun j hj1 hj2 => ?_, h4⟩
      by_cases e : j = p
      · rw [e]
        exact hc
      · exact h3 j (by omega) hj2
    · rw [if_neg hc]
      exact ⟨Nat.le_refl _, fun h => h, fun j h1 h2 => by omega, hc⟩
section EN
variable {t : Nat → Bool} {len p : Nat}
theorem en_ge : p ≤ en t len p := (rn_sp (len - p) p (Nat.le_refl _)).1
theorem en_le (h : p ≤ len) : en t len p ≤ len := (rn_sp (len - p) p (Nat.le_refl _)).2.1 h
theorem en_in {j : Nat} (h : p ≤ j) (h2 : j < en t len p) : j < len ∧ t j = true := (rn_sp (len - p) p (Nat.le_refl _)).2.2.1 j h h2
theorem en_no : ¬ (en t len p < len ∧ t (en t len p) = true) := (rn_sp (len - p) p (Nat.le_refl _)).2.2.2
theorem en_end (h : ¬ (p < len ∧ t p = true)) : en t len p = p := by
  unfold en
  generalize len - p = m
  cases m with
  | zero => rfl
  | succ m => rw [rn, if_neg h]
theorem en_go (h : p < len) (h2 : t p = true) : en t len p = en t len (p + 1) := by
  unfold en
  have e : len - p = (len - (p + 1)) + 1 := by omega
  rw [e, rn, if_pos ⟨h, h2⟩]
theorem en_en : en t len (en t len p) = en t len p := en_end en_no
end EN
def bs (B : Nat → Nat) (j : Nat) : Bool := decide (B j = 32)
def bd (B : Nat → Nat) (j : Nat) : Bool := decide (48 ≤ B j ∧ B j ≤ 57)
def bl (B : Nat → Nat) (j : Nat) : Bool := decide (97 ≤ B j ∧ B j ≤ 122)
def sk (B : Nat → Nat) (len p : Nat) : Nat := en (bs B) len p
def dE (B : Nat → Nat) (len p : Nat) : Nat := en (bd B) len p
def lE (B : Nat → Nat) (len p : Nat) : Nat := en (bl B) len p
def nVal (B : Nat → Nat) (len q : Nat) : Nat := if dE B len q - q = 1 then B q - 48 else 10 * (B q - 48) + (B (q + 1) - 48)
def nOk (B : Nat → Nat) (len lo hi q : Nat) : Bool := decide ((dE B len q - q = 1 ∨ dE B len q - q = 2) ∧ lo ≤ nVal B len q ∧ nVal B len q ≤ hi)
def chN (i k : Nat) : Nat := ((sByt.getD i []).getD k 0).toNatClampNeg
theorem chN_t : ∀ i, i < 11 → ∀ k, k < txL i → txC i k = nI (chN i k) ∧ chN i k < 128 := by decide +kernel
theorem txL_7 : ∀ i, i < 11 → txL i ≤ 7 := by decide +kernel
def isw (B : Nat → Nat) (len i q : Nat) : Bool := decide (lE B len q - q = txL i ∧ ∀ k, k < txL i → B (q + k) = chN i k)
/-- the number of a word -/
def hs (B : Nat → Nat) (q : Nat) : Nat → Nat
  | 0 => 0
  | n + 1 => 27 * hs B q n + (B (q + n) - 96)
theorem hs_lt {B : Nat → Nat} {q : Nat} : ∀ n, (∀ k, k < n → 97 ≤ B (q + k) ∧ B (q + k) ≤ 122) → hs B q n < 27 ^ n
  | 0, _ => by
    rw [hs]
    decide
  | n + 1, h => by
    have h1 := hs_lt n fun k hk => h k (by omega)
    have h2 := h n (by omega)
    rw [hs, Nat.pow_succ]
    omega
theorem hs_ge {B : Nat → Nat} {q : Nat} : ∀ n, (∀ k, k < n + 1 → 97 ≤ B (q + k) ∧ B (q + k) ≤ 122) → 27 ^ n ≤ hs B q (n + 1)
  | 0, h => by
    have h2 := h 0 (by omega)
    rw [hs, hs]
    omega
  | n + 1, h => by
    have h1 := hs_ge n fun k hk => h k (by omega)
    rw [hs, Nat.pow_succ]
    omega
theorem hw_0 {B : Nat → Nat} {q n : Nat} (h1 : 1 ≤ n) (h8 : n ≤ 8) (h : ∀ k, k < n → 97 ≤ B (q + k) ∧ B (q + k) ≤ 122) (e : hs B q n = 316040) : n = 4 ∧ B (q + 0) = 112 ∧ B (q + 1) = 97 ∧ B (q + 2) = 110 ∧ B (q + 3) = 101 := by
  have hn : n = 4 := by
    have a := hs_lt n h
    obtain ⟨m, rfl⟩ : ∃ m, n = m + 1 := ⟨n - 1, by omega⟩
    have b := hs_ge m h
    rw [e] at a b
    have hm : m = 0 ∨ m = 1 ∨ m = 2 ∨ m = 3 ∨ m = 4 ∨ m = 5 ∨ m = 6 ∨ m = 7 := by omega
    rcases hm with rfl | rfl | rfl | rfl | rfl | rfl | rfl | rfl <;> first | rfl | (exfalso; revert a b; decide)
  subst hn
  have a0 := h 0 (by decide)
  have a1 := h 1 (by decide)
  have a2 := h 2 (by decide)
  have a3 := h 3 (by decide)
  simp only [hs] at e
  refine ⟨rfl, ?_⟩
  omega
theorem hv_0 {B : Nat → Nat} {q : Nat} : B (q + 0) = 112 → B (q + 1) = 97 → B (q + 2) = 110 → B (q + 3) = 101 → hs B q 4 = 316040 := by
  intro a0 a1 a2 a3
  simp only [hs]
  omega
theorem hw_1 {B : Nat → Nat} {q n : Nat} (h1 : 1 ≤ n) (h8 : n ≤ 8) (h : ∀ k, k < n → 97 ≤ B (q + k) ∧ B (q + k) ≤ 122) (e : hs B q n = 10792937) : n = 5 ∧ B (q + 0) = 116 ∧ B (q + 1) = 104 ∧ B (q + 2) = 105 ∧ B (q + 3) = 99 ∧ B (q + 4) = 107 := by
  have hn : n = 5 := by
    have a := hs_lt n h
    obtain ⟨m, rfl⟩ : ∃ m, n = m + 1 := ⟨n - 1, by omega⟩
    have b := hs_ge m h
    rw [e] at a b
    have hm : m = 0 ∨ m = 1 ∨ m = 2 ∨ m = 3 ∨ m = 4 ∨ m = 5 ∨ m = 6 ∨ m = 7 := by omega
    rcases hm with rfl | rfl | rfl | rfl | rfl | rfl | rfl | rfl <;> first | rfl | (exfalso; revert a b; decide)
  subst hn
  have a0 := h 0 (by decide)
  have a1 := h 1 (by decide)
  have a2 := h 2 (by decide)
  have a3 := h 3 (by decide)
  have a4 := h 4 (by decide)
  simp only [hs] at e
  refine ⟨rfl, ?_⟩
  omega
theorem hv_1 {B : Nat → Nat} {q : Nat} : B (q + 0) = 116 → B (q + 1) = 104 → B (q + 2) = 105 → B (q + 3) = 99 → B (q + 4) = 107 → hs B q 5 = 10792937 := by
  intro a0 a1 a2 a3 a4
  simp only [hs]
  omega
theorem hw_2 {B : Nat → Nat} {q n : Nat} (h1 : 1 ≤ n) (h8 : n ≤ 8) (h : ∀ k, k < n → 97 ≤ B (q + k) ∧ B (q + k) ≤ 122) (e : hs B q n = 65782373) : n = 6 ∧ B (q + 0) = 100 ∧ B (q + 1) = 111 ∧ B (q + 2) = 117 ∧ B (q + 3) = 98 ∧ B (q + 4) = 108 ∧ B (q + 5) = 101 := by
  have hn : n = 6 := by
    have a := hs_lt n h
    obtain ⟨m, rfl⟩ : ∃ m, n = m + 1 := ⟨n - 1, by omega⟩
    have b := hs_ge m h
    rw [e] at a b
    have hm : m = 0 ∨ m = 1 ∨ m = 2 ∨ m = 3 ∨ m = 4 ∨ m = 5 ∨ m = 6 ∨ m = 7 := by omega
    rcases hm with rfl | rfl | rfl | rfl | rfl | rfl | rfl | rfl <;> first | rfl | (exfalso; revert a b; decide)
  subst hn
  have a0 := h 0 (by decide)
  have a1 := h 1 (by decide)
  have a2 := h 2 (by decide)
  have a3 := h 3 (by decide)
  have a4 := h 4 (by decide)
  have a5 := h 5 (by decide)
  simp only [hs] at e
  refine ⟨rfl, ?_⟩
  omega
theorem hv_2 {B : Nat → Nat} {q : Nat} : B (q + 0) = 100 → B (q + 1) = 111 → B (q + 2) = 117 → B (q + 3) = 98 → B (q + 4) = 108 → B (q + 5) = 101 → hs B q 6 = 65782373 := by
  intro a0 a1 a2 a3 a4 a5
  simp only [hs]
  omega
theorem hw_3 {B : Nat → Nat} {q n : Nat} (h1 : 1 ≤ n) (h8 : n ≤ 8) (h : ∀ k, k < n → 97 ≤ B (q + k) ∧ B (q + k) ≤ 122) (e : hs B q n = 79958) : n = 4 ∧ B (q + 0) = 100 ∧ B (q + 1) = 97 ∧ B (q + 2) = 114 ∧ B (q + 3) = 107 := by
  have hn : n = 4 := by
    have a := hs_lt n h
    obtain ⟨m, rfl⟩ : ∃ m, n = m + 1 := ⟨n - 1, by omega⟩
    have b := hs_ge m h
    rw [e] at a b
    have hm : m = 0 ∨ m = 1 ∨ m = 2 ∨ m = 3 ∨ m = 4 ∨ m = 5 ∨ m = 6 ∨ m = 7 := by omega
    rcases hm with rfl | rfl | rfl | rfl | rfl | rfl | rfl | rfl <;> first | rfl | (exfalso; revert a b; decide)
  subst hn
  have a0 := h 0 (by decide)
  have a1 := h 1 (by decide)
  have a2 := h 2 (by decide)
  have a3 := h 3 (by decide)
  simp only [hs] at e
  refine ⟨rfl, ?_⟩
  omega
theorem hv_3 {B : Nat → Nat} {q : Nat} : B (q + 0) = 100 → B (q + 1) = 97 → B (q + 2) = 114 → B (q + 3) = 107 → hs B q 4 = 79958 := by
  intro a0 a1 a2 a3
  simp only [hs]
  omega
theorem hw_4 {B : Nat → Nat} {q n : Nat} (h1 : 1 ≤ n) (h8 : n ≤ 8) (h : ∀ k, k < n → 97 ≤ B (q + k) ∧ B (q + k) ≤ 122) (e : hs B q n = 7111535836) : n = 7 ∧ B (q + 0) = 114 ∧ B (q + 1) = 105 ∧ B (q + 2) = 112 ∧ B (q + 3) = 112 ∧ B (q + 4) = 108 ∧ B (q + 5) = 101 ∧ B (q + 6) = 100 := by
  have hn : n = 7 := by
    have a := hs_lt n h
    obtain ⟨m, rfl⟩ : ∃ m, n = m + 1 := ⟨n - 1, by omega⟩
    have b := hs_ge m h
    rw [e] at a b
    have hm : m = 0 ∨ m = 1 ∨ m = 2 ∨ m = 3 ∨ m = 4 ∨ m = 5 ∨ m = 6 ∨ m = 7 := by omega
    rcases hm with rfl | rfl | rfl | rfl | rfl | rfl | rfl | rfl <;> first | rfl | (exfalso; revert a b; decide)
  subst hn
  have a0 := h 0 (by decide)
  have a1 := h 1 (by decide)
  have a2 := h 2 (by decide)
  have a3 := h 3 (by decide)
  have a4 := h 4 (by decide)
  have a5 := h 5 (by decide)
  have a6 := h 6 (by decide)
  simp only [hs] at e
  refine ⟨rfl, ?_⟩
  omega
theorem hv_4 {B : Nat → Nat} {q : Nat} : B (q + 0) = 114 → B (q + 1) = 105 → B (q + 2) = 112 → B (q + 3) = 112 → B (q + 4) = 108 → B (q + 5) = 101 → B (q + 6) = 100 → hs B q 7 = 7111535836 := by
  intro a0 a1 a2 a3 a4 a5 a6
  simp only [hs]
  omega
theorem hw_5 {B : Nat → Nat} {q n : Nat} (h1 : 1 ≤ n) (h8 : n ≤ 8) (h : ∀ k, k < n → 97 ≤ B (q + k) ∧ B (q + k) ≤ 122) (e : hs B q n = 191686599) : n = 6 ∧ B (q + 0) = 109 ∧ B (q + 1) = 105 ∧ B (q + 2) = 114 ∧ B (q + 3) = 114 ∧ B (q + 4) = 111 ∧ B (q + 5) = 114 := by
  have hn : n = 6 := by
    have a := hs_lt n h
    obtain ⟨m, rfl⟩ : ∃ m, n = m + 1 := ⟨n - 1, by omega⟩
    have b := hs_ge m h
    rw [e] at a b
    have hm : m = 0 ∨ m = 1 ∨ m = 2 ∨ m = 3 ∨ m = 4 ∨ m = 5 ∨ m = 6 ∨ m = 7 := by omega
    rcases hm with rfl | rfl | rfl | rfl | rfl | rfl | rfl | rfl <;> first | rfl | (exfalso; revert a b; decide)
  subst hn
  have a0 := h 0 (by decide)
  have a1 := h 1 (by decide)
  have a2 := h 2 (by decide)
  have a3 := h 3 (by decide)
  have a4 := h 4 (by decide)
  have a5 := h 5 (by decide)
  simp only [hs] at e
  refine ⟨rfl, ?_⟩
  omega
theorem hv_5 {B : Nat → Nat} {q : Nat} : B (q + 0) = 109 → B (q + 1) = 105 → B (q + 2) = 114 → B (q + 3) = 114 → B (q + 4) = 111 → B (q + 5) = 114 → hs B q 6 = 191686599 := by
  intro a0 a1 a2 a3 a4 a5
  simp only [hs]
  omega
theorem hw_6 {B : Nat → Nat} {q n : Nat} (h1 : 1 ≤ n) (h8 : n ≤ 8) (h : ∀ k, k < n → 97 ≤ B (q + k) ∧ B (q + k) ≤ 122) (e : hs B q n = 47) : n = 2 ∧ B (q + 0) = 97 ∧ B (q + 1) = 116 := by
  have hn : n = 2 := by
    have a := hs_lt n h
    obtain ⟨m, rfl⟩ : ∃ m, n = m + 1 := ⟨n - 1, by omega⟩
    have b := hs_ge m h
    rw [e] at a b
    have hm : m = 0 ∨ m = 1 ∨ m = 2 ∨ m = 3 ∨ m = 4 ∨ m = 5 ∨ m = 6 ∨ m = 7 := by omega
    rcases hm with rfl | rfl | rfl | rfl | rfl | rfl | rfl | rfl <;> first | rfl | (exfalso; revert a b; decide)
  subst hn
  have a0 := h 0 (by decide)
  have a1 := h 1 (by decide)
  simp only [hs] at e
  refine ⟨rfl, ?_⟩
  omega
theorem hv_6 {B : Nat → Nat} {q : Nat} : B (q + 0) = 97 → B (q + 1) = 116 → hs B q 2 = 47 := by
  intro a0 a1
  simp only [hs]
  omega
theorem hw_7 {B : Nat → Nat} {q n : Nat} (h1 : 1 ≤ n) (h8 : n ≤ 8) (h : ∀ k, k < n → 97 ≤ B (q + k) ∧ B (q + k) ≤ 122) (e : hs B q n = 131638) : n = 4 ∧ B (q + 0) = 102 ∧ B (q + 1) = 114 ∧ B (q + 2) = 111 ∧ B (q + 3) = 109 := by
  have hn : n = 4 := by
    have a := hs_lt n h
    obtain ⟨m, rfl⟩ : ∃ m, n = m + 1 := ⟨n - 1, by omega⟩
    have b := hs_ge m h
    rw [e] at a b
    have hm : m = 0 ∨ m = 1 ∨ m = 2 ∨ m = 3 ∨ m = 4 ∨ m = 5 ∨ m = 6 ∨ m = 7 := by omega
    rcases hm with rfl | rfl | rfl | rfl | rfl | rfl | rfl | rfl <;> first | rfl | (exfalso; revert a b; decide)
  subst hn
  have a0 := h 0 (by decide)
  have a1 := h 1 (by decide)
  have a2 := h 2 (by decide)
  have a3 := h 3 (by decide)
  simp only [hs] at e
  refine ⟨rfl, ?_⟩
  omega
theorem hv_7 {B : Nat → Nat} {q : Nat} : B (q + 0) = 102 → B (q + 1) = 114 → B (q + 2) = 111 → B (q + 3) = 109 → hs B q 4 = 131638 := by
  intro a0 a1 a2 a3
  simp only [hs]
  omega
theorem hw_8 {B : Nat → Nat} {q n : Nat} (h1 : 1 ≤ n) (h8 : n ≤ 8) (h : ∀ k, k < n → 97 ≤ B (q + k) ∧ B (q + k) ≤ 122) (e : hs B q n = 439745) : n = 4 ∧ B (q + 0) = 118 ∧ B (q + 1) = 105 ∧ B (q + 2) = 101 ∧ B (q + 3) = 119 := by
  have hn : n = 4 := by
    have a := hs_lt n h
    obtain ⟨m, rfl⟩ : ∃ m, n = m + 1 := ⟨n - 1, by omega⟩
    have b := hs_ge m h
    rw [e] at a b
    have hm : m = 0 ∨ m = 1 ∨ m = 2 ∨ m = 3 ∨ m = 4 ∨ m = 5 ∨ m = 6 ∨ m = 7 := by omega
    rcases hm with rfl | rfl | rfl | rfl | rfl | rfl | rfl | rfl <;> first | rfl | (exfalso; revert a b; decide)
  subst hn
  have a0 := h 0 (by decide)
  have a1 := h 1 (by decide)
  have a2 := h 2 (by decide)
  have a3 := h 3 (by decide)
  simp only [hs] at e
  refine ⟨rfl, ?_⟩
  omega
theorem hv_8 {B : Nat → Nat} {q : Nat} : B (q + 0) = 118 → B (q + 1) = 105 → B (q + 2) = 101 → B (q + 3) = 119 → hs B q 4 = 439745 := by
  intro a0 a1 a2 a3
  simp only [hs]
  omega
theorem hw_9 {B : Nat → Nat} {q n : Nat} (h1 : 1 ≤ n) (h8 : n ≤ 8) (h : ∀ k, k < n → 97 ≤ B (q + k) ∧ B (q + k) ≤ 122) (e : hs B q n = 247730) : n = 4 ∧ B (q + 0) = 108 ∧ B (q + 1) = 111 ∧ B (q + 2) = 118 ∧ B (q + 3) = 101 := by
  have hn : n = 4 := by
    have a := hs_lt n h
    obtain ⟨m, rfl⟩ : ∃ m, n = m + 1 := ⟨n - 1, by omega⟩
    have b := hs_ge m h
    rw [e] at a b
    have hm : m = 0 ∨ m = 1 ∨ m = 2 ∨ m = 3 ∨ m = 4 ∨ m = 5 ∨ m = 6 ∨ m = 7 := by omega
    rcases hm with rfl | rfl | rfl | rfl | rfl | rfl | rfl | rfl <;> first | rfl | (exfalso; revert a b; decide)
  subst hn
  have a0 := h 0 (by decide)
  have a1 := h 1 (by decide)
  have a2 := h 2 (by decide)
  have a3 := h 3 (by decide)
  simp only [hs] at e
  refine ⟨rfl, ?_⟩
  omega
theorem hv_9 {B : Nat → Nat} {q : Nat} : B (q + 0) = 108 → B (q + 1) = 111 → B (q + 2) = 118 → B (q + 3) = 101 → hs B q 4 = 247730 := by
  intro a0 a1 a2 a3
  simp only [hs]
  omega
theorem hw_10 {B : Nat → Nat} {q n : Nat} (h1 : 1 ≤ n) (h8 : n ≤ 8) (h : ∀ k, k < n → 97 ≤ B (q + k) ∧ B (q + k) ≤ 122) (e : hs B q n = 10927033) : n = 5 ∧ B (q + 0) = 116 ∧ B (q + 1) = 111 ∧ B (q + 2) = 100 ∧ B (q + 3) = 97 ∧ B (q + 4) = 121 := by
  have hn : n = 5 := by
    have a := hs_lt n h
    obtain ⟨m, rfl⟩ : ∃ m, n = m + 1 := ⟨n - 1, by omega⟩
    have b := hs_ge m h
    rw [e] at a b
    have hm : m = 0 ∨ m = 1 ∨ m = 2 ∨ m = 3 ∨ m = 4 ∨ m = 5 ∨ m = 6 ∨ m = 7 := by omega
    rcases hm with rfl | rfl | rfl | rfl | rfl | rfl | rfl | rfl <;> first | rfl | (exfalso; revert a b; decide)
  subst hn
  have a0 := h 0 (by decide)
  have a1 := h 1 (by decide)
  have a2 := h 2 (by decide)
  have a3 := h 3 (by decide)
  have a4 := h 4 (by decide)
  simp only [hs] at e
  refine ⟨rfl, ?_⟩
  omega
theorem hv_10 {B : Nat → Nat} {q : Nat} : B (q + 0) = 116 → B (q + 1) = 111 → B (q + 2) = 100 → B (q + 3) = 97 → B (q + 4) = 121 → hs B q 5 = 10927033 := by
  intro a0 a1 a2 a3 a4
  simp only [hs]
  omega
def wNum (i : Nat) : Nat := [316040, 10792937, 65782373, 79958, 7111535836, 191686599, 47, 131638, 439745, 247730, 10927033].getD i 0
theorem isw_hs {B : Nat → Nat} {len i q : Nat} (hi : i < 11) (h1 : 1 ≤ lE B len q - q) : isw B len i q = true ↔ (lE B len q - q ≤ 8 ∧ hs B q (lE B len q - q) = wNum i) := by
  have hl : ∀ k, k < lE B len q - q → 97 ≤ B (q + k) ∧ B (q + k) ≤ 122 := fun k hk => by
    have := (en_in (t := bl B) (len := len) (p := q) (j := q + k) (by omega) (by show q + k < lE B len q; omega)).2
    exact of_decide_eq_true this
  unfold isw
  rw [decide_eq_true_iff]
  generalize lE B len q - q = n at h1 hl ⊢
  have h11 : i = 0 ∨ i = 1 ∨ i = 2 ∨ i = 3 ∨ i = 4 ∨ i = 5 ∨ i = 6 ∨ i = 7 ∨ i = 8 ∨ i = 9 ∨ i = 10 := by omega
  rcases h11 with rfl | rfl | rfl | rfl | rfl | rfl | rfl | rfl | rfl | rfl | rfl
  · refine ⟨fun z => ?_, fun z => ?_⟩
    · obtain ⟨z1, z2⟩ := z
      have z1' : n = 4 := z1
      subst z1'
      exact ⟨by decide, hv_0 (z2 0 (by decide)) (z2 1 (by decide)) (z2 2 (by decide)) (z2 3 (by decide))⟩
    · obtain ⟨e, a0, a1, a2, a3⟩ := hw_0 h1 z.1 hl z.2
      refine ⟨e, fun k hk => ?_⟩
      have hk' : k < 4 := hk
      have hc : k = 0 ∨ k = 1 ∨ k = 2 ∨ k = 3 := by omega
      rcases hc with rfl | rfl | rfl | rfl
      · exact a0
      · exact a1
      · exact a2
      · exact a3
  · refine ⟨fun z => ?_, fun z => ?_⟩
    · obtain ⟨z1, z2⟩ := z
      have z1' : n = 5 := z1
      subst z1'
      exact ⟨by decide, hv_1 (z2 0 (by decide)) (z2 1 (by decide)) (z2 2 (by decide)) (z2 3 (by decide)) (z2 4 (by decide))⟩
    · obtain ⟨e, a0, a1, a2, a3, a4⟩ := hw_1 h1 z.1 hl z.2
      refine ⟨e, fun k hk => ?_⟩
      have hk' : k < 5 := hk
      have hc : k = 0 ∨ k = 1 ∨ k = 2 ∨ k = 3 ∨ k = 4 := by omega
      rcases hc with rfl | rfl | rfl | rfl | rfl
      · exact a0
      · exact a1
      · exact a2
      · exact a3
      · exact a4
  · refine ⟨fun z => ?_, fun z => ?_⟩
    · obtain ⟨z1, z2⟩ := z
      have z1' : n = 6 := z1
      subst z1'
      exact ⟨by decide, hv_2 (z2 0 (by decide)) (z2 1 (by decide)) (z2 2 (by decide)) (z2 3 (by decide)) (z2 4 (by decide)) (z2 5 (by decide))⟩
    · obtain ⟨e, a0, a1, a2, a3, a4, a5⟩ := hw_2 h1 z.1 hl z.2
      refine ⟨e, fun k hk => ?_⟩
      have hk' : k < 6 := hk
      have hc : k = 0 ∨ k = 1 ∨ k = 2 ∨ k = 3 ∨ k = 4 ∨ k = 5 := by omega
      rcases hc with rfl | rfl | rfl | rfl | rfl | rfl
      · exact a0
      · exact a1
      · exact a2
      · exact a3
      · exact a4
      · exact a5
  · refine ⟨fun z => ?_, fun z => ?_⟩
    · obtain ⟨z1, z2⟩ := z
      have z1' : n = 4 := z1
      subst z1'
      exact ⟨by decide, hv_3 (z2 0 (by decide)) (z2 1 (by decide)) (z2 2 (by decide)) (z2 3 (by decide))⟩
    · obtain ⟨e, a0, a1, a2, a3⟩ := hw_3 h1 z.1 hl z.2
      refine ⟨e, fun k hk => ?_⟩
      have hk' : k < 4 := hk
      have hc : k = 0 ∨ k = 1 ∨ k = 2 ∨ k = 3 := by omega
      rcases hc with rfl | rfl | rfl | rfl
      · exact a0
      · exact a1
      · exact a2
      · exact a3
  · refine ⟨fun z => ?_, fun z => ?_⟩
    · obtain ⟨z1, z2⟩ := z
      have z1' : n = 7 := z1
      subst z1'
      exact ⟨by decide, hv_4 (z2 0 (by decide)) (z2 1 (by decide)) (z2 2 (by decide)) (z2 3 (by decide)) (z2 4 (by decide)) (z2 5 (by decide)) (z2 6 (by decide))⟩
    · obtain ⟨e, a0, a1, a2, a3, a4, a5, a6⟩ := hw_4 h1 z.1 hl z.2
      refine ⟨e, fun k hk => ?_⟩
      have hk' : k < 7 := hk
      have hc : k = 0 ∨ k = 1 ∨ k = 2 ∨ k = 3 ∨ k = 4 ∨ k = 5 ∨ k = 6 := by omega
      rcases hc with rfl | rfl | rfl | rfl | rfl | rfl | rfl
      · exact a0
      · exact a1
      · exact a2
      · exact a3
      · exact a4
      · exact a5
      · exact a6
  · refine ⟨fun z => ?_, fun z => ?_⟩
    · obtain ⟨z1, z2⟩ := z
      have z1' : n = 6 := z1
      subst z1'
      exact ⟨by decide, hv_5 (z2 0 (by decide)) (z2 1 (by decide)) (z2 2 (by decide)) (z2 3 (by decide)) (z2 4 (by decide)) (z2 5 (by decide))⟩
    · obtain ⟨e, a0, a1, a2, a3, a4, a5⟩ := hw_5 h1 z.1 hl z.2
      refine ⟨e, fun k hk => ?_⟩
      have hk' : k < 6 := hk
      have hc : k = 0 ∨ k = 1 ∨ k = 2 ∨ k = 3 ∨ k = 4 ∨ k = 5 := by omega
      rcases hc with rfl | rfl | rfl | rfl | rfl | rfl
      · exact a0
      · exact a1
      · exact a2
      · exact a3
      · exact a4
      · exact a5
  · refine ⟨fun z => ?_, fun z => ?_⟩
    · obtain ⟨z1, z2⟩ := z
      have z1' : n = 2 := z1
      subst z1'
      exact ⟨by decide, hv_6 (z2 0 (by decide)) (z2 1 (by decide))⟩
    · obtain ⟨e, a0, a1⟩ := hw_6 h1 z.1 hl z.2
      refine ⟨e, fun k hk => ?_⟩
      have hk' : k < 2 := hk
      have hc : k = 0 ∨ k = 1 := by omega
      rcases hc with rfl | rfl
      · exact a0
      · exact a1
  · refine ⟨fun z => ?_, fun z => ?_⟩
    · obtain ⟨z1, z2⟩ := z
      have z1' : n = 4 := z1
      subst z1'
      exact ⟨by decide, hv_7 (z2 0 (by decide)) (z2 1 (by decide)) (z2 2 (by decide)) (z2 3 (by decide))⟩
    · obtain ⟨e, a0, a1, a2, a3⟩ := hw_7 h1 z.1 hl z.2
      refine ⟨e, fun k hk => ?_⟩
      have hk' : k < 4 := hk
      have hc : k = 0 ∨ k = 1 ∨ k = 2 ∨ k = 3 := by omega
      rcases hc with rfl | rfl | rfl | rfl
      · exact a0
      · exact a1
      · exact a2
      · exact a3
  · refine ⟨fun z => ?_, fun z => ?_⟩
    · obtain ⟨z1, z2⟩ := z
      have z1' : n = 4 := z1
      subst z1'
      exact ⟨by decide, hv_8 (z2 0 (by decide)) (z2 1 (by decide)) (z2 2 (by decide)) (z2 3 (by decide))⟩
    · obtain ⟨e, a0, a1, a2, a3⟩ := hw_8 h1 z.1 hl z.2
      refine ⟨e, fun k hk => ?_⟩
      have hk' : k < 4 := hk
      have hc : k = 0 ∨ k = 1 ∨ k = 2 ∨ k = 3 := by omega
      rcases hc with rfl | rfl | rfl | rfl
      · exact a0
      · exact a1
      · exact a2
      · exact a3
  · refine ⟨fun z => ?_, fun z => ?_⟩
    · obtain ⟨z1, z2⟩ := z
      have z1' : n = 4 := z1
      subst z1'
      exact ⟨by decide, hv_9 (z2 0 (by decide)) (z2 1 (by decide)) (z2 2 (by decide)) (z2 3 (by decide))⟩
    · obtain ⟨e, a0, a1, a2, a3⟩ := hw_9 h1 z.1 hl z.2
      refine ⟨e, fun k hk => ?_⟩
      have hk' : k < 4 := hk
      have hc : k = 0 ∨ k = 1 ∨ k = 2 ∨ k = 3 := by omega
      rcases hc with rfl | rfl | rfl | rfl
      · exact a0
      · exact a1
      · exact a2
      · exact a3
  · refine ⟨fun z => ?_, fun z => ?_⟩
    · obtain ⟨z1, z2⟩ := z
      have z1' : n = 5 := z1
      subst z1'
      exact ⟨by decide, hv_10 (z2 0 (by decide)) (z2 1 (by decide)) (z2 2 (by decide)) (z2 3 (by decide)) (z2 4 (by decide))⟩
    · obtain ⟨e, a0, a1, a2, a3, a4⟩ := hw_10 h1 z.1 hl z.2
      refine ⟨e, fun k hk => ?_⟩
      have hk' : k < 5 := hk
      have hc : k = 0 ∨ k = 1 ∨ k = 2 ∨ k = 3 ∨ k = 4 := by omega
      rcases hc with rfl | rfl | rfl | rfl | rfl
      · exact a0
      · exact a1
      · exact a2
      · exact a3
      · exact a4
