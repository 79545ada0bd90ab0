/-! the reference's row is lent; one pane goes; a day goes -/
def aLent (r r' : Nat → Int32) : Prop := (∀ j, j < 116 → r' j = r j) ∧ ∀ j, j < 116 → r' (116 + j) = r j
theorem r_lends_l {T : St} {K : Int32 → St → Prop} {r0 : Nat → Int32} (k : ∀ y r', aLent r0 r' → K y (sR T 3 r')) : ∀ (m c : Nat) (r : Nat → Int32), c + m = 116 → (∀ j, j < 116 → r j = r0 j) → (∀ j, j < c → r (116 + j) = r0 j) → wl_X12_lends_7 K (m + 1) (nI c) (sR T 3 r)
  | 0, c, r, hc, h1, h2 => by
    rw [wl_X12_lends_7]
    exact d_leT 116 c (by omega) (k _ _ ⟨h1, fun j hj => h2 j (by omega)⟩)
  | m + 1, c, r, hc, h1, h2 => by
    rw [wl_X12_lends_7]
    have e : (116 : Int32) + nI c = nI (116 + c) := nI_add 116 c
    refine d_leF 116 c (by omega) ⟨vp_in_nI (by omega) (by decide), ?_⟩
    rw [e, nI_clamp (by omega), nI_clamp (by omega)]
    refine ⟨vp_in_nI (by omega) (by decide), nm_e (nm_r (nI_1 c) ?_)⟩
    rw [sA_R, gA_sR, sR_sR]
    refine r_lends_l k m (c + 1) _ (by omega) (fun j hj => ?_) (fun j hj => ?_)
    · rw [u1_n (by omega)]
      exact h1 j hj
    · by_cases hjc : j = c
      · subst hjc
        rw [u1_s]
        exact h1 j (by omega)
      · rw [u1_n (by omega)]
        exact h2 j (by omega)
/-- the row worked on begins at u -/
def sU (T : St) (u : Nat) (r : Nat → Int32) : St := sR (sI T 0 3 (nI u)) 3 r
theorem gI_sU {T : St} {u : Nat} {r : Nat → Int32} : gI (sU T u r) 0 3 = nI u := by
  show up2 T.1 0 3 (nI u) 0 3 = _
  rw [up2_c]
  exact u1_s
theorem gI_sUn {T : St} {u k : Nat} {r : Nat → Int32} (h : k ≠ 3) : gI (sU T u r) 0 k = gI T 0 k := by
  show up2 T.1 0 3 (nI u) 0 k = _
  rw [up2_c]
  exact u1_n h
theorem gA_sU {T : St} {u : Nat} {r : Nat → Int32} : gA (sU T u r) 3 = r := gA_sR _ _ _
theorem gA_sUn {T : St} {u c : Nat} {r : Nat → Int32} (h : c ≠ 3) : gA (sU T u r) c = gA T c := if_neg h
theorem gL_sU {T : St} {u : Nat} {r : Nat → Int32} : gL (sU T u r) = gL T := rfl
theorem sR_sU {T : St} {u : Nat} {r r' : Nat → Int32} : sR (sU T u r) 3 r' = sU T u r' := sR_sR
theorem up2_up2 {α : Type} {f : Nat → Nat → α} {c k : Nat} {v w : α} : up2 (up2 f c k v) c k w = up2 f c k w := by
  funext c' k'
  unfold up2
  by_cases h : c' = c
  · rw [if_pos h, if_pos h, if_pos rfl]
    unfold up1
    by_cases hk : k' = k
    · rw [if_pos hk, if_pos hk]
    · rw [if_neg hk, if_neg hk, if_neg hk]
  · rw [if_neg h, if_neg h, if_neg h]
theorem sI_sU {T : St} {u u' : Nat} {r : Nat → Int32} {v : Int32} (h : v = nI u') : sI (sU T u r) 0 3 v = sU T u' r := by
  subst h
  refine Prod.ext ?_ rfl
  show up2 (up2 T.1 0 3 (nI u)) 0 3 (nI u') = up2 T.1 0 3 (nI u')
  exact up2_up2
theorem sU_sU {T : St} {u u' : Nat} {r r' : Nat → Int32} : sU (sU T u r) u' r' = sU T u' r' := by
  unfold sU
  rw [show sI (sR (sI T 0 3 (nI u)) 3 r) 0 3 (nI u') = sU T u' r from sI_sU rfl]
  exact sR_sR
theorem up2_self {α : Type} {f : Nat → Nat → α} {c k : Nat} {v : α} (h : f c k = v) : up2 f c k v = f := by
  funext c' k'
  unfold up2
  by_cases hc : c' = c
  · subst hc
    rw [if_pos rfl]
    unfold up1
    by_cases hk : k' = k
    · subst hk
      rw [if_pos rfl]
      exact h.symm
    · rw [if_neg hk]
  · rw [if_neg hc]
theorem sU_self {T : St} (h : gI T 0 3 = nI 0) : sU T 0 (gA T 3) = T := by
  have e : sI T 0 3 (nI 0) = T := Prod.ext (up2_self h) rfl
  unfold sU
  rw [e]
  exact sR_self
theorem r_lends {T : St} {u : Nat} {r : Nat → Int32} {Q : St → Prop} (k : ∀ r', aLent r r' → Q (sU T 116 r')) : wp_X12_lends (sU T u r) Q := by
  unfold wp_X12_lends
  refine nm_r (sI_sU (u' := 0) rfl) ⟨116 + 1, ?_⟩
  refine r_lends_l (T := sI T 0 3 (nI 0)) (r0 := r) (fun y r' h => nm_r (sI_sU (T := T) (u := 0) (u' := 116) rfl) (k r' h)) 116 0 r (by decide) (fun _ _ => rfl) (fun j hj => absurd hj (by omega))
theorem At.u {T : St} {u p b : Nat} {r : Nat → Int32} (hb : b = u + 2 + 19 * p) (h : b + 19 ≤ 232) : At (sU T u r) u p b := ⟨gI_sU, hb, h⟩
/-- what stands behind pane p comes forward -/
def aGone (r : Nat → Int32) (p c : Nat) : Nat → Int32 := fun j => if j = 1 then nI (c - 1) else if 2 + 19 * p ≤ j ∧ j < 2 + 19 * (c - 1) then r (j + 19) else r j
theorem r_goes_l {T : St} {p c : Nat} {K : Int32 → St → Prop} {r0 : Nat → Int32} (hp : p < c) (hc : c ≤ 6) (k : ∀ y r', (∀ j, r' j = aGone r0 p c j) → K y (sR T 3 r')) : ∀ (m i : Nat) (r : Nat → Int32), i + m = 19 * (c - 1 - p) → (∀ j, r j = if j = 1 then nI (c - 1) else if 2 + 19 * p ≤ j ∧ j < 2 + 19 * p + i then r0 (j + 19) else r0 j) → wl_X12_goes_17 K (m + 1) (nI (2 + 19 * p + i)) (sR T 3 r)
  | 0, i, r, hi, hr => by
    have e1 : r 1 = nI (c - 1) := by rw [hr 1, if_pos rfl]
    have e : (2 : Int32) + (19 : Int32) * gA (sR T 3 r) 3 (1 : Int32).toNatClampNeg = nI (2 + 19 * (c - 1)) := by
      rw [gA_sR]
      show nI 2 + nI 19 * r (nI 1).toNatClampNeg = _
      rw [nI_clamp (by decide), e1, pk_mul, nI_add]
    rw [wl_X12_goes_17, e]
    refine ⟨vp_in_nI (n := 1) (by decide) (by decide), d_leT (2 + 19 * (c - 1)) (2 + 19 * p + i) (by omega) (k _ _ fun j => ?_)⟩
    rw [hr j]
    unfold aGone
    by_cases h1 : j = 1
    · rw [if_pos h1, if_pos h1]
    · rw [if_neg h1, if_neg h1]
      by_cases h2 : 2 + 19 * p ≤ j ∧ j < 2 + 19 * p + i
      · rw [if_pos h2, if_pos (by omega)]
      · rw [if_neg h2, if_neg (by omega)]
  | m + 1, i, r, hi, hr => by
    have e1 : r 1 = nI (c - 1) := by rw [hr 1, if_pos rfl]
    have e : (2 : Int32) + (19 : Int32) * gA (sR T 3 r) 3 (1 : Int32).toNatClampNeg = nI (2 + 19 * (c - 1)) := by
      rw [gA_sR]
      show nI 2 + nI 19 * r (nI 1).toNatClampNeg = _
      rw [nI_clamp (by decide), e1, pk_mul, nI_add]
    have e2 : nI (2 + 19 * p + i) + (19 : Int32) = nI (2 + 19 * p + i + 19) := nI_add _ 19
    rw [wl_X12_goes_17, e, e2, nI_clamp (by omega), nI_clamp (by omega)]
    refine ⟨vp_in_nI (n := 1) (by decide) (by decide), d_leF (2 + 19 * (c - 1)) (2 + 19 * p + i) (by omega) ⟨vp_in_nI (by omega) (by decide), vp_in_nI (by omega) (by decide), nm_e (nm_r (nI_1 _) ?_)⟩⟩
    rw [sA_R, gA_sR, sR_sR, Nat.add_assoc]
    refine r_goes_l hp hc k m (i + 1) _ (by omega) fun j => ?_
    by_cases h2 : j = 2 + 19 * p + i
    · subst h2
      rw [u1_s, hr, if_neg (by omega), if_neg (by omega), if_neg (by omega), if_pos (by omega)]
    · rw [u1_n h2, hr j]
      by_cases h1 : j = 1
      · rw [if_pos h1, if_pos h1]
      · rw [if_neg h1, if_neg h1]
        by_cases h3 : 2 + 19 * p ≤ j ∧ j < 2 + 19 * p + i
        · rw [if_pos h3, if_pos (by omega)]
        · rw [if_neg h3, if_neg (by omega)]
theorem r_goes {T : St} {p c : Nat} {x : Int32} {Q : St → Prop} (hx : x = nI p) (hp : p < c) (hc : c ≤ 6) (h1 : gA T 3 1 = nI c) (k : ∀ r', (∀ j, r' j = aGone (gA T 3) p c j) → Q (sR T 3 r')) : wp_X12_goes x T Q := by
  have e1 : (gA T 3 (1 : Int32).toNatClampNeg) - (1 : Int32) = nI (c - 1) := by
    show gA T 3 (nI 1).toNatClampNeg - nI 1 = _
    rw [nI_clamp (by decide), h1]
    exact pk_sub (by omega)
  have e2 : (2 : Int32) + (19 : Int32) * x = nI (2 + 19 * p + 0) := by
    rw [hx]
    show nI 2 + nI 19 * nI p = _
    rw [pk_mul, nI_add]
    rfl
  unfold wp_X12_goes
  rw [e1, e2]
  refine ⟨vp_in_nI (n := 1) (by decide) (by decide), vp_in_nI (n := 1) (by decide) (by decide), nm_e (nm_e ⟨19 * (c - 1 - p) + 1, ?_⟩)⟩
  have e3 : (1 : Int32).toNatClampNeg = 1 := nI_clamp (n := 1) (by decide)
  rw [e3, sA_R]
  refine r_goes_l (T := T) (r0 := gA T 3) hp hc (fun y r' h => k r' h) _ 0 _ (by omega) fun j => ?_
  by_cases h1 : j = 1
  · subst h1
    rw [u1_s, if_pos rfl]
  · rw [u1_n h1, if_neg h1, if_neg (by omega)]
/-- the reference's row from u on tells today, how many panes, the panes -/
def RW (r : Nat → Int32) (u t c : Nat) (p : Nat → AP) : Prop := r u = nI t ∧ r (u + 1) = nI c ∧ ∀ j, j < c → RS r (u + 2 + 19 * j) (p j)
theorem r_day_l {T : St} {u t c : Nat} {x : Int32} {p : Nat → AP} {K : Int32 → St → Prop} {r0 : Nat → Int32} (hx : x = nI t) (ht : t < 50) (hc : c ≤ 6) (hu : u + 116 ≤ 232) (hp : ∀ j, j < c → VPa (p j)) (k : ∀ y r', RW r' u t c (fun j => aPass t (p j)) → (∀ j, j < u ∨ u + 116 ≤ j → r' j = r0 j) → K y (sU T u r')) : ∀ (m i : Nat) (r : Nat → Int32), i + m = c → RW r u t c (fun j => if j < i then aPass t (p j) else p j) → (∀ j, j < u ∨ u + 116 ≤ j → r j = r0 j) → wl_X12_dayGoes_14 x K (m + 1) (nI i) (sU T u r)
  | 0, i, r, hi, hr, ho => by
    have e0 : gI (sU T u r) 0 3 + (1 : Int32) = nI (u + 1) := by
      rw [gI_sU]
      exact nI_add u 1
    rw [wl_X12_dayGoes_14, e0, nI_clamp (by omega), gA_sU, hr.2.1]
    refine ⟨vp_in_nI (by omega) (by decide), d_leT c i (by omega) (k _ _ ⟨hr.1, hr.2.1, fun j hj => ?_⟩ ho)⟩
    have this : RS r (u + 2 + 19 * j) (if j < i then aPass t (p j) else p j) := hr.2.2 j hj
    rw [if_pos (by omega)] at this
    exact this
  | m + 1, i, r, hi, hr, ho => by
    have e0 : gI (sU T u r) 0 3 + (1 : Int32) = nI (u + 1) := by
      rw [gI_sU]
      exact nI_add u 1
    rw [wl_X12_dayGoes_14, e0, nI_clamp (by omega), gA_sU, hr.2.1]
    have hs : RS r (u + 2 + 19 * i) (if i < i then aPass t (p i) else p i) := hr.2.2 i (by omega)
    rw [if_neg (by omega)] at hs
    refine ⟨vp_in_nI (by omega) (by decide), d_leF c i (by omega) (r_moves (T := sU T u r) (b := u + 2 + 19 * i) (d := t) (At.u rfl (by omega)) rfl (by rw [gA_sU]; exact hs) (hp i (by omega)) hx ht fun r' h1 h2 => nm_r (nI_1 i) ?_)⟩
    rw [sR_sU]
    rw [gA_sU] at h2
    refine r_day_l hx ht hc hu hp k m (i + 1) r' (by omega) ⟨?_, ?_, fun j hj => ?_⟩ (fun j hj => ?_)
    · rw [h2 _ (by omega)]
      exact hr.1
    · rw [h2 _ (by omega)]
      exact hr.2.1
    · by_cases hji : j = i
      · subst hji
        show RS r' (u + 2 + 19 * j) (if j < j + 1 then aPass t (p j) else p j)
        rw [if_pos (by omega)]
        exact h1
      · have this : RS r (u + 2 + 19 * j) (if j < i then aPass t (p j) else p j) := hr.2.2 j hj
        have e : (if j < i + 1 then aPass t (p j) else p j) = (if j < i then aPass t (p j) else p j) := by
          by_cases h : j < i
          · rw [if_pos h, if_pos (by omega)]
          · rw [if_neg h, if_neg (by omega)]
        show RS r' (u + 2 + 19 * j) (if j < i + 1 then aPass t (p j) else p j)
        rw [e]
        refine this.out ?_ h2 (by omega)
        by_cases h : j < i
        · rw [if_pos h]
          exact ((hp j hj).pass ht).2.2.1
        · rw [if_neg h]
          exact (hp j hj).2.2.1
    · rw [h2 _ (by omega)]
      exact ho j hj
theorem r_dayGoes {T : St} {u t c : Nat} {r : Nat → Int32} {p : Nat → AP} {Q : St → Prop} (ht : t < 50) (hc : c ≤ 6) (hu : u + 116 ≤ 232) (hp : ∀ j, j < c → VPa (p j)) (hr : RW r u t c p) (k : ∀ r', RW r' u (t + 1) c (fun j => aPass t (p j)) → (∀ j, j < u ∨ u + 116 ≤ j → r' j = r j) → Q (sU T u r')) : wp_X12_dayGoes (sU T u r) Q := by
  have e0 : ∀ r, gI (sU T u r) 0 3 + (0 : Int32) = nI u := by
    intro r
    rw [gI_sU]
    exact nI_add u 0
  unfold wp_X12_dayGoes
  rw [e0, nI_clamp (by omega), gA_sU, hr.1]
  refine ⟨vp_in_nI (by omega) (by decide), nm_e ⟨c + 1, ?_⟩⟩
  refine r_day_l (T := T) (r0 := r) rfl ht hc hu hp (fun y r' h1 h2 => ?_) c 0 r (by omega) ⟨hr.1, hr.2.1, fun j hj => ?_⟩ (fun _ _ => rfl)
  · rw [e0, nI_clamp (by omega), gA_sU, h1.1]
    refine ⟨vp_in_nI (by omega) (by decide), vp_in_nI (by omega) (by decide), nm_e ?_⟩
    rw [sA_R, gA_sU, sR_sU]
    refine k _ ⟨?_, ?_, fun j hj => ?_⟩ fun j hj => ?_
    · rw [u1_s]
      exact nI_1 t
    · rw [u1_n (by omega)]
      exact h1.2.1
    · obtain ⟨s1, s2, s3, s4⟩ := h1.2.2 j hj
      refine ⟨?_, ?_, ?_, fun i hi => ?_⟩
      · rw [u1_n (by omega)]
        exact s1
      · rw [u1_n (by omega)]
        exact s2
      · rw [u1_n (by omega)]
        exact s3
      · rw [u1_n (by omega)]
        exact s4 i hi
    · rw [u1_n (by omega)]
      exact h2 j hj
  · show RS r (u + 2 + 19 * j) (if j < 0 then aPass t (p j) else p j)
    rw [if_neg (by omega)]
    exact hr.2.2 j hj
