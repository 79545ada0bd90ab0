/-! STEPS: act. The trace: how many bodies, the bodies; told by the list of all that ran, the last one first. -/
abbrev TT : Type := Nat × (Nat → Int32)
def TL (u : TT) (l : List Int32) : Prop := u.1 = min 30 l.length ∧ ∀ j, j < u.1 → u.2 j = l.getD (l.length - 1 - j) 0
theorem getD_c {b : Int32} {l : List Int32} {j : Nat} (h : j < l.length) : (b :: l).getD ((b :: l).length - 1 - j) 0 = l.getD (l.length - 1 - j) 0 := by
  have e : (b :: l).length - 1 - j = (l.length - 1 - j) + 1 := by
    rw [List.length_cons]
    omega
  rw [e]
  rfl
theorem TL.full {u : TT} {l : List Int32} {b : Int32} (h : TL u l) (e : 30 ≤ u.1) : TL u (b :: l) := by
  obtain ⟨h1, h2⟩ := h
  refine ⟨?_, fun j hj => ?_⟩
  · rw [List.length_cons]
    omega
  · rw [getD_c (by omega)]
    exact h2 j hj
theorem TL.push {u : TT} {l : List Int32} {b : Int32} (h : TL u l) (e : u.1 < 30) : TL (u.1 + 1, up1 u.2 u.1 b) (b :: l) := by
  obtain ⟨h1, h2⟩ := h
  refine ⟨?_, fun j hj => ?_⟩
  · show u.1 + 1 = _
    rw [List.length_cons]
    omega
  · have hj' : j < u.1 + 1 := hj
    show up1 u.2 u.1 b j = _
    by_cases e2 : j = u.1
    · rw [e2, u1_s]
      have e3 : (b :: l).length - 1 - u.1 = 0 := by
        rw [List.length_cons]
        omega
      rw [e3]
      rfl
    · rw [u1_n e2, getD_c (by omega)]
      exact h2 j (by omega)
theorem TL.nil {f : Nat → Int32} : TL (0, f) [] := ⟨rfl, fun j hj => absurd hj (Nat.not_lt_zero j)⟩
theorem TL.le {u : TT} {l : List Int32} (h : TL u l) : u.1 ≤ 30 := by
  have := h.1
  omega
theorem TL.eq {u v : TT} {l : List Int32} (h : TL u l) (h' : TL v l) : u.1 = v.1 ∧ ∀ j, j < u.1 → u.2 j = v.2 j := by
  have e := h.1.trans h'.1.symm
  exact ⟨e, fun j hj => (h.2 j hj).trans (h'.2 j (by omega)).symm⟩
def cS (S : St) (u : TT) (z : Int32) : St := sI (sI (sR S 8 u.2) 7 1 (nI u.1)) 7 2 z
def rS (T : St) (u : TT) (z : Int32) : St := sI (sI (sR T 17 u.2) 0 33 (nI u.1)) 0 34 z
section CS
variable {S T : St} {u : TT} {z z' b x : Int32} {c k : Nat}
theorem gI_cS (h : c ≠ 7) : gI (cS S u z) c = gI S c := by
  show gI (sI (sI (sR S 8 u.2) 7 1 (nI u.1)) 7 2 z) c = gI (sR S 8 u.2) c
  rw [gI_sIn h, gI_sIn h]
theorem gI_cS1 : gI (cS S u z) 7 1 = nI u.1 := by
  show gI (sI (sI (sR S 8 u.2) 7 1 (nI u.1)) 7 2 z) 7 1 = _
  rw [gI_sIk (by decide)]
  exact gI_sIs
theorem gI_cS2 : gI (cS S u z) 7 2 = z := gI_sIs (S := sI (sR S 8 u.2) 7 1 (nI u.1))
theorem gA_cS (h : c ≠ 8) : gA (cS S u z) c = gA S c := by
  show gA (sR S 8 u.2) c = _
  exact gA_sRn h
theorem gA_cS8 : gA (cS S u z) 8 = u.2 := by
  show gA (sR S 8 u.2) 8 = _
  exact gA_sR _ _ _
theorem cS_st (hx : x = nI (u.1 + 1)) : sI (sA (cS S u z) 8 u.1 b) 7 1 x = cS S (u.1 + 1, up1 u.2 u.1 b) z := by
  subst hx
  refine Prod.ext ?_ (Prod.ext ?_ rfl)
  · show up2 (up2 (up2 S.1 7 1 (nI u.1)) 7 2 z) 7 1 (nI (u.1 + 1)) = up2 (up2 S.1 7 1 (nI (u.1 + 1))) 7 2 z
    rw [up2_comm (c := 7) (k := 2) (c' := 7) (k' := 1) (Or.inr (by decide)), up2_up2]
  · funext d
    show (if d = 8 then up1 (if 8 = 8 then u.2 else S.2.1 8) u.1 b else if d = 8 then u.2 else S.2.1 d) = if d = 8 then up1 u.2 u.1 b else S.2.1 d
    rw [if_pos rfl]
    by_cases h : d = 8
    · rw [if_pos h, if_pos h]
    · rw [if_neg h, if_neg h, if_neg h]
theorem cS_z (hx : x = z') : sI (cS S u z) 7 2 x = cS S u z' := by
  subst hx
  exact Prod.ext up2_up2 rfl
theorem cS_self (h1 : gI S 7 1 = nI 0) (h2 : gI S 7 2 = 0) : cS S (0, gA S 8) 0 = S := by
  have e1 : sI S 7 1 (nI 0) = S := Prod.ext (up2_self h1) rfl
  have e2 : sI S 7 2 0 = S := Prod.ext (up2_self h2) rfl
  unfold cS
  rw [sR_self, e1, e2]
theorem gI_rS (h : k ≠ 33) (h' : k ≠ 34) : gI (rS T u z) 0 k = gI T 0 k := by
  show gI (sI (sI (sR T 17 u.2) 0 33 (nI u.1)) 0 34 z) 0 k = gI (sR T 17 u.2) 0 k
  rw [gI_sIk h', gI_sIk h]
theorem gI_rS3 : gI (rS T u z) 0 33 = nI u.1 := by
  show gI (sI (sI (sR T 17 u.2) 0 33 (nI u.1)) 0 34 z) 0 33 = _
  rw [gI_sIk (by decide)]
  exact gI_sIs
theorem gI_rS4 : gI (rS T u z) 0 34 = z := gI_sIs (S := sI (sR T 17 u.2) 0 33 (nI u.1))
theorem gA_rS (h : c ≠ 17) : gA (rS T u z) c = gA T c := by
  show gA (sR T 17 u.2) c = _
  exact gA_sRn h
theorem gA_rS17 : gA (rS T u z) 17 = u.2 := by
  show gA (sR T 17 u.2) 17 = _
  exact gA_sR _ _ _
theorem rS_st (hx : x = nI (u.1 + 1)) : sI (sA (rS T u z) 17 u.1 b) 0 33 x = rS T (u.1 + 1, up1 u.2 u.1 b) z := by
  subst hx
  refine Prod.ext ?_ (Prod.ext ?_ rfl)
  · show up2 (up2 (up2 T.1 0 33 (nI u.1)) 0 34 z) 0 33 (nI (u.1 + 1)) = up2 (up2 T.1 0 33 (nI (u.1 + 1))) 0 34 z
    rw [up2_comm (c := 0) (k := 34) (c' := 0) (k' := 33) (Or.inr (by decide)), up2_up2]
  · funext d
    show (if d = 17 then up1 (if 17 = 17 then u.2 else T.2.1 17) u.1 b else if d = 17 then u.2 else T.2.1 d) = if d = 17 then up1 u.2 u.1 b else T.2.1 d
    rw [if_pos rfl]
    by_cases h : d = 17
    · rw [if_pos h, if_pos h]
    · rw [if_neg h, if_neg h, if_neg h]
theorem rS_z (hx : x = z') : sI (rS T u z) 0 34 x = rS T u z' := by
  subst hx
  exact Prod.ext up2_up2 rfl
theorem rS_self (h1 : gI T 0 33 = nI 0) (h2 : gI T 0 34 = 0) : rS T (0, gA T 17) 0 = T := by
  have e1 : sI T 0 33 (nI 0) = T := Prod.ext (up2_self h1) rfl
  have e2 : sI T 0 34 0 = T := Prod.ext (up2_self h2) rfl
  unfold rS
  rw [sR_self, e1, e2]
end CS
/-! what a thing of kind kd, number nn, own number aa does -/
def shV (kd : Nat) (nn x : Int32) : Int32 := if kd = 2 then x + nn - nn else if kd = 3 then (x + nn) * 3 else if kd = 4 then 0 - (x + nn) * 3 else x + nn
def shL (kd : Nat) (l : List Int32) : List Int32 := if kd = 2 then 10 :: 51 :: l else if kd = 3 then 10 :: 30 :: l else if kd = 4 then 10 :: 30 :: 40 :: l else 10 :: l
def mvV (kd : Nat) (nn aa x : Int32) : Int32 := if kd = 1 then shV kd nn x * 2 - aa else if kd = 2 then shV kd nn x * 2 - aa else if kd = 4 then shV kd nn x * 2 + shV kd nn nn else shV kd nn x * 2
def mvL (kd : Nat) (l : List Int32) : List Int32 := if kd = 1 then shL kd (11 :: 20 :: l) else if kd = 2 then shL kd (11 :: 20 :: l) else if kd = 4 then shL kd (shL kd (11 :: 41 :: l)) else shL kd (11 :: l)
def srV (kd : Nat) (nn aa x : Int32) : Int32 := if kd = 2 then (x + 2) / (aa - nn) ^^^ 1 else if kd = 5 then x / (aa - nn) + shV kd nn aa else x / (aa - nn)
def srL (kd : Nat) (l : List Int32) : List Int32 := if kd = 2 then 12 :: 50 :: l else if kd = 5 then shL kd (12 :: 61 :: l) else 12 :: l
def spL (kd : Nat) (l : List Int32) : List Int32 := if kd = 2 then 12 :: 50 :: l else if kd = 5 then 12 :: 61 :: l else 12 :: l
def aR (kd a : Nat) (nn aa x : Int32) : Int32 := if a = 0 then shV kd nn x else if a = 1 then mvV kd nn aa x else if a = 2 then (if aa = nn then -15 else srV kd nn aa x) else if kd = 3 then (if aa = nn then -15 else (mvV kd nn aa x ^^^ aa) + srV kd nn aa nn) else if kd = 4 then (if aa = nn then -15 else (mvV kd nn aa x ^^^ aa) + srV kd nn aa nn) else if kd = 5 then (mvV kd nn aa x ^^^ aa) * 2 else mvV kd nn aa x ^^^ aa
def aL (kd a : Nat) (nn aa : Int32) (l : List Int32) : List Int32 := if a = 0 then shL kd l else if a = 1 then mvL kd l else if a = 2 then (if aa = nn then spL kd l else srL kd l) else if kd = 3 then (if aa = nn then spL kd (mvL kd (13 :: 31 :: l)) else srL kd (mvL kd (13 :: 31 :: l))) else if kd = 4 then (if aa = nn then spL kd (mvL kd (13 :: 31 :: l)) else srL kd (mvL kd (13 :: 31 :: l))) else if kd = 5 then mvL kd (13 :: 60 :: l) else mvL kd (13 :: l)
/-- the class's thing -/
def TH (n : List Nat) (S : St) (ci o : Nat) (nn aa : Int32) : Prop := isTh n S ci o ∧ gI S o 0 = nn ∧ gI S o 1 = aa
theorem TH.ne {n : List Nat} {S : St} {ci o : Nat} {nn aa : Int32} (h : TH n S ci o nn aa) : o ≠ 7 := by
  have := h.1.1
  omega
theorem TH.t {n : List Nat} {S : St} {ci o : Nat} {nn aa z : Int32} {u : TT} (h : TH n S ci o nn aa) : isTh n (cS S u z) ci o := h.1
section TC
variable {n : List Nat} {S : St} {o : Nat} {nn aa x b : Int32} {u : TT} {l : List Int32}
theorem t_b {Q : St → Prop} (hu : TL u l) (q : ∀ u', TL u' (b :: l) → Q (cS S u' 0)) : wp_X9_begin b (cS S u 0) Q := by
  have := hu.le
  unfold wp_X9_begin
  rw [gI_cS2, gI_cS1]
  refine br_t rfl (pk_le 30 u.1 (fun e => q _ (hu.full e)) (fun e => ?_))
  rw [nI_clamp (by omega)]
  refine ⟨vp_in_nI e (by decide), nm_e (nm_r (cS_st ?_) (q _ (hu.push e)))⟩
  show gI (cS S u 0) 7 1 + 1 = _
  rw [gI_cS1]
  exact nI_1 _
theorem t_bp {Q : St → Prop} (q : Q (cS S u 1)) : wp_X9_begin b (cS S u 1) Q := by
  unfold wp_X9_begin
  rw [gI_cS2]
  exact br_f (by decide) q
theorem t_part {Q : Int32 → St → Prop} (q1 : ¬ aa = nn → Q (x / (aa - nn)) (cS S u 0)) (q0 : aa = nn → Q 0 (cS S u 1)) : wp_X9_part x (aa - nn) (cS S u 0) Q := by
  unfold wp_X9_part
  have e : aa - nn = 0 → aa = nn := fun z => by
    have := Int32.sub_add_cancel aa nn
    rw [z, Int32.zero_add] at this
    exact this.symm
  refine ⟨fun z => nm_r (cS_z rfl) (q0 (e z)), fun z => ⟨z, q1 fun y => z ?_⟩⟩
  rw [y]
  exact Int32.sub_self nn
theorem t_sh_c8 {Q : Int32 → St → Prop} (h : TH n S 8 o nn aa) (hu : TL u l) (q : ∀ u', TL u' (shL 0 l) → Q (shV 0 nn x) (cS S u' 0)) : wp_X8_shows_c8 n o x (cS S u 0) Q := by
  unfold wp_X8_shows_c8
  refine ⟨h.t, t_b hu fun u1 h1 => ⟨h.t, ?_⟩⟩
  rw [gI_cS h.ne, h.2.1]
  exact q _ h1
theorem t_pm_c8 {Q : Int32 → St → Prop} (h : TH n S 8 o nn aa) (hu : TL u l) (q : ∀ u', TL u' (shL 0 (11 :: l)) → Q (shV 0 nn x * 2) (cS S u' 0)) : wp_X8_moves_c8 n o x (cS S u 0) Q := by
  unfold wp_X8_moves_c8
  exact ⟨h.t, t_b hu fun u1 h1 => ⟨h.t, t_sh_c8 h h1 fun u2 h2 => q _ h2⟩⟩
theorem t_mv_c8 {Q : Int32 → St → Prop} (h : TH n S 8 o nn aa) (hu : TL u l) (q : ∀ u', TL u' (mvL 0 l) → Q (mvV 0 nn aa x) (cS S u' 0)) : wp_X8_moves_c8 n o x (cS S u 0) Q := by
  exact t_pm_c8 h hu fun u1 h1 => q _ h1
theorem t_ps_c8 {Q : Int32 → St → Prop} (h : TH n S 8 o nn aa) (hu : TL u l) (q1 : ¬ aa = nn → ∀ u', TL u' (12 :: l) → Q (x / (aa - nn)) (cS S u' 0)) (q0 : aa = nn → ∀ u', TL u' (12 :: l) → Q 0 (cS S u' 1)) : wp_X8_shares_c8 n o x (cS S u 0) Q := by
  unfold wp_X8_shares_c8
  refine ⟨h.t, t_b hu fun u1 h1 => ⟨h.t, ?_⟩⟩
  rw [gI_cS h.ne, h.2.1, h.2.2]
  exact t_part (fun e => q1 e _ h1) (fun e => q0 e _ h1)
theorem t_sr_c8 {Q : Int32 → St → Prop} (h : TH n S 8 o nn aa) (hu : TL u l) (q1 : ¬ aa = nn → ∀ u', TL u' (srL 0 l) → Q (srV 0 nn aa x) (cS S u' 0)) (q0 : aa = nn → ∀ r u', TL u' (spL 0 l) → Q r (cS S u' 1)) : wp_X8_shares_c8 n o x (cS S u 0) Q := by
  exact t_ps_c8 h hu (fun e u1 h1 => q1 e _ h1) (fun e u1 h1 => q0 e _ _ h1)
theorem t_pt_c8 {Q : Int32 → St → Prop} (h : TH n S 8 o nn aa) (hu : TL u l) (q : ∀ u', TL u' (mvL 0 (13 :: l)) → Q (mvV 0 nn aa x ^^^ aa) (cS S u' 0)) : wp_X8_tells_c8 n o x (cS S u 0) Q := by
  unfold wp_X8_tells_c8
  refine ⟨h.t, t_b hu fun u1 h1 => ⟨h.t, t_mv_c8 h h1 fun u2 h2 => ⟨h.t, ?_⟩⟩⟩
  rw [gI_cS h.ne, h.2.2]
  exact q _ h2
theorem t_act_c8 {a : Nat} {R : Int32 → St → Prop} (h : TH n S 8 o nn aa) (hu : TL u l) (ha : a < 4) (k : ∀ u' z, TL u' (aL 0 a nn aa l) → R (aR 0 a nn aa x) (cS S u' z)) : isTh n (cS S u 0) 8 o ∧ ((nI a = 0 → wp_X8_shows_c8 n o x (cS S u 0) (fun r S' => (((gI S' 7 2) = 0 → R r S') ∧ (¬ (gI S' 7 2) = 0 → R (-15 : Int32) S')))) ∧ (¬ nI a = 0 → ((nI a = 1 → wp_X8_moves_c8 n o x (cS S u 0) (fun r S' => (((gI S' 7 2) = 0 → R r S') ∧ (¬ (gI S' 7 2) = 0 → R (-15 : Int32) S')))) ∧ (¬ nI a = 1 → ((nI a = 2 → wp_X8_shares_c8 n o x (cS S u 0) (fun r S' => (((gI S' 7 2) = 0 → R r S') ∧ (¬ (gI S' 7 2) = 0 → R (-15 : Int32) S')))) ∧ (¬ nI a = 2 → wp_X8_tells_c8 n o x (cS S u 0) (fun r S' => (((gI S' 7 2) = 0 → R r S') ∧ (¬ (gI S' 7 2) = 0 → R (-15 : Int32) S'))))))))) := by
  refine ⟨h.t, pk_eq a 0 (fun e => ?_) (fun e0 => pk_eq a 1 (fun e => ?_) (fun e1 => pk_eq a 2 (fun e => ?_) (fun e2 => ?_)))⟩
  · subst e
    exact t_sh_c8 h hu fun u' hu' => br_t gI_cS2 (k u' 0 hu')
  · subst e
    exact t_mv_c8 h hu fun u' hu' => br_t gI_cS2 (k u' 0 hu')
  · subst e
    refine t_sr_c8 h hu (fun e3 u' hu' => br_t gI_cS2 ?_) (fun e3 r u' hu' => br_f (by rw [gI_cS2]; decide) ?_)
    · have kk := k u' 0
      rw [show aL 0 2 nn aa l = srL 0 l from if_neg e3, show aR 0 2 nn aa x = srV 0 nn aa x from if_neg e3] at kk
      exact kk hu'
    · have kk := k u' 1
      rw [show aL 0 2 nn aa l = spL 0 l from if_pos e3, show aR 0 2 nn aa x = -15 from if_pos e3] at kk
      exact kk hu'
  · obtain rfl : a = 3 := by omega
    exact t_pt_c8 h hu fun u' hu' => br_t gI_cS2 (k u' 0 hu')
theorem t_sh_c7 {Q : Int32 → St → Prop} (h : TH n S 7 o nn aa) (hu : TL u l) (q : ∀ u', TL u' (shL 1 l) → Q (shV 1 nn x) (cS S u' 0)) : wp_X8_shows_c7 n o x (cS S u 0) Q := by
  unfold wp_X8_shows_c7
  refine ⟨h.t, t_b hu fun u1 h1 => ⟨h.t, ?_⟩⟩
  rw [gI_cS h.ne, h.2.1]
  exact q _ h1
theorem t_pm_c7 {Q : Int32 → St → Prop} (h : TH n S 7 o nn aa) (hu : TL u l) (q : ∀ u', TL u' (shL 1 (11 :: l)) → Q (shV 1 nn x * 2) (cS S u' 0)) : wp_X8_moves_c7 n o x (cS S u 0) Q := by
  unfold wp_X8_moves_c7
  exact ⟨h.t, t_b hu fun u1 h1 => ⟨h.t, t_sh_c7 h h1 fun u2 h2 => q _ h2⟩⟩
theorem t_mv_c7 {Q : Int32 → St → Prop} (h : TH n S 7 o nn aa) (hu : TL u l) (q : ∀ u', TL u' (mvL 1 l) → Q (mvV 1 nn aa x) (cS S u' 0)) : wp_X7_moves_c7 n o x (cS S u 0) Q := by
  unfold wp_X7_moves_c7
  refine ⟨h.t, t_b hu fun u1 h1 => ⟨h.t, t_pm_c7 h h1 fun u2 h2 => ⟨h.t, ?_⟩⟩⟩
  rw [gI_cS h.ne, h.2.2]
  exact q _ h2
theorem t_ps_c7 {Q : Int32 → St → Prop} (h : TH n S 7 o nn aa) (hu : TL u l) (q1 : ¬ aa = nn → ∀ u', TL u' (12 :: l) → Q (x / (aa - nn)) (cS S u' 0)) (q0 : aa = nn → ∀ u', TL u' (12 :: l) → Q 0 (cS S u' 1)) : wp_X8_shares_c7 n o x (cS S u 0) Q := by
  unfold wp_X8_shares_c7
  refine ⟨h.t, t_b hu fun u1 h1 => ⟨h.t, ?_⟩⟩
  rw [gI_cS h.ne, h.2.1, h.2.2]
  exact t_part (fun e => q1 e _ h1) (fun e => q0 e _ h1)
theorem t_sr_c7 {Q : Int32 → St → Prop} (h : TH n S 7 o nn aa) (hu : TL u l) (q1 : ¬ aa = nn → ∀ u', TL u' (srL 1 l) → Q (srV 1 nn aa x) (cS S u' 0)) (q0 : aa = nn → ∀ r u', TL u' (spL 1 l) → Q r (cS S u' 1)) : wp_X8_shares_c7 n o x (cS S u 0) Q := by
  exact t_ps_c7 h hu (fun e u1 h1 => q1 e _ h1) (fun e u1 h1 => q0 e _ _ h1)
theorem t_pt_c7 {Q : Int32 → St → Prop} (h : TH n S 7 o nn aa) (hu : TL u l) (q : ∀ u', TL u' (mvL 1 (13 :: l)) → Q (mvV 1 nn aa x ^^^ aa) (cS S u' 0)) : wp_X8_tells_c7 n o x (cS S u 0) Q := by
  unfold wp_X8_tells_c7
  refine ⟨h.t, t_b hu fun u1 h1 => ⟨h.t, t_mv_c7 h h1 fun u2 h2 => ⟨h.t, ?_⟩⟩⟩
  rw [gI_cS h.ne, h.2.2]
  exact q _ h2
theorem t_act_c7 {a : Nat} {R : Int32 → St → Prop} (h : TH n S 7 o nn aa) (hu : TL u l) (ha : a < 4) (k : ∀ u' z, TL u' (aL 1 a nn aa l) → R (aR 1 a nn aa x) (cS S u' z)) : isTh n (cS S u 0) 7 o ∧ ((nI a = 0 → wp_X8_shows_c7 n o x (cS S u 0) (fun r S' => (((gI S' 7 2) = 0 → R r S') ∧ (¬ (gI S' 7 2) = 0 → R (-15 : Int32) S')))) ∧ (¬ nI a = 0 → ((nI a = 1 → wp_X7_moves_c7 n o x (cS S u 0) (fun r S' => (((gI S' 7 2) = 0 → R r S') ∧ (¬ (gI S' 7 2) = 0 → R (-15 : Int32) S')))) ∧ (¬ nI a = 1 → ((nI a = 2 → wp_X8_shares_c7 n o x (cS S u 0) (fun r S' => (((gI S' 7 2) = 0 → R r S') ∧ (¬ (gI S' 7 2) = 0 → R (-15 : Int32) S')))) ∧ (¬ nI a = 2 → wp_X8_tells_c7 n o x (cS S u 0) (fun r S' => (((gI S' 7 2) = 0 → R r S') ∧ (¬ (gI S' 7 2) = 0 → R (-15 : Int32) S'))))))))) := by
  refine ⟨h.t, pk_eq a 0 (fun e => ?_) (fun e0 => pk_eq a 1 (fun e => ?_) (fun e1 => pk_eq a 2 (fun e => ?_) (fun e2 => ?_)))⟩
  · subst e
    exact t_sh_c7 h hu fun u' hu' => br_t gI_cS2 (k u' 0 hu')
  · subst e
    exact t_mv_c7 h hu fun u' hu' => br_t gI_cS2 (k u' 0 hu')
  · subst e
    refine t_sr_c7 h hu (fun e3 u' hu' => br_t gI_cS2 ?_) (fun e3 r u' hu' => br_f (by rw [gI_cS2]; decide) ?_)
    · have kk := k u' 0
      rw [show aL 1 2 nn aa l = srL 1 l from if_neg e3, show aR 1 2 nn aa x = srV 1 nn aa x from if_neg e3] at kk
      exact kk hu'
    · have kk := k u' 1
      rw [show aL 1 2 nn aa l = spL 1 l from if_pos e3, show aR 1 2 nn aa x = -15 from if_pos e3] at kk
      exact kk hu'
  · obtain rfl : a = 3 := by omega
    exact t_pt_c7 h hu fun u' hu' => br_t gI_cS2 (k u' 0 hu')
theorem t_sh_c1 {Q : Int32 → St → Prop} (h : TH n S 1 o nn aa) (hu : TL u l) (q : ∀ u', TL u' (shL 2 l) → Q (shV 2 nn x) (cS S u' 0)) : wp_X1_shows_c1 n o x (cS S u 0) Q := by
  unfold wp_X1_shows_c1 wp_X8_shows_c1
  refine ⟨h.t, t_b hu fun u1 h1 => ⟨h.t, h.t, t_b h1 fun u2 h2 => ⟨h.t, h.t, ?_⟩⟩⟩
  rw [gI_cS h.ne, h.2.1]
  exact q _ h2
theorem t_pm_c1 {Q : Int32 → St → Prop} (h : TH n S 1 o nn aa) (hu : TL u l) (q : ∀ u', TL u' (shL 2 (11 :: l)) → Q (shV 2 nn x * 2) (cS S u' 0)) : wp_X8_moves_c1 n o x (cS S u 0) Q := by
  unfold wp_X8_moves_c1
  exact ⟨h.t, t_b hu fun u1 h1 => ⟨h.t, t_sh_c1 h h1 fun u2 h2 => q _ h2⟩⟩
theorem t_mv_c1 {Q : Int32 → St → Prop} (h : TH n S 1 o nn aa) (hu : TL u l) (q : ∀ u', TL u' (mvL 2 l) → Q (mvV 2 nn aa x) (cS S u' 0)) : wp_X7_moves_c1 n o x (cS S u 0) Q := by
  unfold wp_X7_moves_c1
  refine ⟨h.t, t_b hu fun u1 h1 => ⟨h.t, t_pm_c1 h h1 fun u2 h2 => ⟨h.t, ?_⟩⟩⟩
  rw [gI_cS h.ne, h.2.2]
  exact q _ h2
theorem t_ps_c1 {Q : Int32 → St → Prop} (h : TH n S 1 o nn aa) (hu : TL u l) (q1 : ¬ aa = nn → ∀ u', TL u' (12 :: l) → Q (x / (aa - nn)) (cS S u' 0)) (q0 : aa = nn → ∀ u', TL u' (12 :: l) → Q 0 (cS S u' 1)) : wp_X8_shares_c1 n o x (cS S u 0) Q := by
  unfold wp_X8_shares_c1
  refine ⟨h.t, t_b hu fun u1 h1 => ⟨h.t, ?_⟩⟩
  rw [gI_cS h.ne, h.2.1, h.2.2]
  exact t_part (fun e => q1 e _ h1) (fun e => q0 e _ h1)
theorem t_sr_c1 {Q : Int32 → St → Prop} (h : TH n S 1 o nn aa) (hu : TL u l) (q1 : ¬ aa = nn → ∀ u', TL u' (srL 2 l) → Q (srV 2 nn aa x) (cS S u' 0)) (q0 : aa = nn → ∀ r u', TL u' (spL 2 l) → Q r (cS S u' 1)) : wp_X1_shares_c1 n o x (cS S u 0) Q := by
  unfold wp_X1_shares_c1
  exact ⟨h.t, t_b hu fun u1 h1 => ⟨h.t, t_ps_c1 h h1 (fun e u2 h2 => q1 e _ h2) (fun e u2 h2 => q0 e _ _ h2)⟩⟩
theorem t_pt_c1 {Q : Int32 → St → Prop} (h : TH n S 1 o nn aa) (hu : TL u l) (q : ∀ u', TL u' (mvL 2 (13 :: l)) → Q (mvV 2 nn aa x ^^^ aa) (cS S u' 0)) : wp_X8_tells_c1 n o x (cS S u 0) Q := by
  unfold wp_X8_tells_c1
  refine ⟨h.t, t_b hu fun u1 h1 => ⟨h.t, t_mv_c1 h h1 fun u2 h2 => ⟨h.t, ?_⟩⟩⟩
  rw [gI_cS h.ne, h.2.2]
  exact q _ h2
theorem t_act_c1 {a : Nat} {R : Int32 → St → Prop} (h : TH n S 1 o nn aa) (hu : TL u l) (ha : a < 4) (k : ∀ u' z, TL u' (aL 2 a nn aa l) → R (aR 2 a nn aa x) (cS S u' z)) : isTh n (cS S u 0) 1 o ∧ ((nI a = 0 → wp_X1_shows_c1 n o x (cS S u 0) (fun r S' => (((gI S' 7 2) = 0 → R r S') ∧ (¬ (gI S' 7 2) = 0 → R (-15 : Int32) S')))) ∧ (¬ nI a = 0 → ((nI a = 1 → wp_X7_moves_c1 n o x (cS S u 0) (fun r S' => (((gI S' 7 2) = 0 → R r S') ∧ (¬ (gI S' 7 2) = 0 → R (-15 : Int32) S')))) ∧ (¬ nI a = 1 → ((nI a = 2 → wp_X1_shares_c1 n o x (cS S u 0) (fun r S' => (((gI S' 7 2) = 0 → R r S') ∧ (¬ (gI S' 7 2) = 0 → R (-15 : Int32) S')))) ∧ (¬ nI a = 2 → wp_X8_tells_c1 n o x (cS S u 0) (fun r S' => (((gI S' 7 2) = 0 → R r S') ∧ (¬ (gI S' 7 2) = 0 → R (-15 : Int32) S'))))))))) := by
  refine ⟨h.t, pk_eq a 0 (fun e => ?_) (fun e0 => pk_eq a 1 (fun e => ?_) (fun e1 => pk_eq a 2 (fun e => ?_) (fun e2 => ?_)))⟩
  · subst e
    exact t_sh_c1 h hu fun u' hu' => br_t gI_cS2 (k u' 0 hu')
  · subst e
    exact t_mv_c1 h hu fun u' hu' => br_t gI_cS2 (k u' 0 hu')
  · subst e
    refine t_sr_c1 h hu (fun e3 u' hu' => br_t gI_cS2 ?_) (fun e3 r u' hu' => br_f (by rw [gI_cS2]; decide) ?_)
    · have kk := k u' 0
      rw [show aL 2 2 nn aa l = srL 2 l from if_neg e3, show aR 2 2 nn aa x = srV 2 nn aa x from if_neg e3] at kk
      exact kk hu'
    · have kk := k u' 1
      rw [show aL 2 2 nn aa l = spL 2 l from if_pos e3, show aR 2 2 nn aa x = -15 from if_pos e3] at kk
      exact kk hu'
  · obtain rfl : a = 3 := by omega
    exact t_pt_c1 h hu fun u' hu' => br_t gI_cS2 (k u' 0 hu')
theorem t_sh_c0 {Q : Int32 → St → Prop} (h : TH n S 0 o nn aa) (hu : TL u l) (q : ∀ u', TL u' (shL 3 l) → Q (shV 3 nn x) (cS S u' 0)) : wp_X0_shows_c0 n o x (cS S u 0) Q := by
  unfold wp_X0_shows_c0 wp_X8_shows_c0
  refine ⟨h.t, t_b hu fun u1 h1 => ⟨h.t, h.t, t_b h1 fun u2 h2 => ⟨h.t, ?_⟩⟩⟩
  rw [gI_cS h.ne, h.2.1]
  exact q _ h2
theorem t_pm_c0 {Q : Int32 → St → Prop} (h : TH n S 0 o nn aa) (hu : TL u l) (q : ∀ u', TL u' (shL 3 (11 :: l)) → Q (shV 3 nn x * 2) (cS S u' 0)) : wp_X8_moves_c0 n o x (cS S u 0) Q := by
  unfold wp_X8_moves_c0
  exact ⟨h.t, t_b hu fun u1 h1 => ⟨h.t, t_sh_c0 h h1 fun u2 h2 => q _ h2⟩⟩
theorem t_mv_c0 {Q : Int32 → St → Prop} (h : TH n S 0 o nn aa) (hu : TL u l) (q : ∀ u', TL u' (mvL 3 l) → Q (mvV 3 nn aa x) (cS S u' 0)) : wp_X8_moves_c0 n o x (cS S u 0) Q := by
  exact t_pm_c0 h hu fun u1 h1 => q _ h1
theorem t_ps_c0 {Q : Int32 → St → Prop} (h : TH n S 0 o nn aa) (hu : TL u l) (q1 : ¬ aa = nn → ∀ u', TL u' (12 :: l) → Q (x / (aa - nn)) (cS S u' 0)) (q0 : aa = nn → ∀ u', TL u' (12 :: l) → Q 0 (cS S u' 1)) : wp_X8_shares_c0 n o x (cS S u 0) Q := by
  unfold wp_X8_shares_c0
  refine ⟨h.t, t_b hu fun u1 h1 => ⟨h.t, ?_⟩⟩
  rw [gI_cS h.ne, h.2.1, h.2.2]
  exact t_part (fun e => q1 e _ h1) (fun e => q0 e _ h1)
theorem t_sr_c0 {Q : Int32 → St → Prop} (h : TH n S 0 o nn aa) (hu : TL u l) (q1 : ¬ aa = nn → ∀ u', TL u' (srL 3 l) → Q (srV 3 nn aa x) (cS S u' 0)) (q0 : aa = nn → ∀ r u', TL u' (spL 3 l) → Q r (cS S u' 1)) : wp_X8_shares_c0 n o x (cS S u 0) Q := by
  exact t_ps_c0 h hu (fun e u1 h1 => q1 e _ h1) (fun e u1 h1 => q0 e _ _ h1)
theorem t_pt_c0 {Q : Int32 → St → Prop} (h : TH n S 0 o nn aa) (hu : TL u l) (q : ∀ u', TL u' (mvL 3 (13 :: l)) → Q (mvV 3 nn aa x ^^^ aa) (cS S u' 0)) : wp_X8_tells_c0 n o x (cS S u 0) Q := by
  unfold wp_X8_tells_c0
  refine ⟨h.t, t_b hu fun u1 h1 => ⟨h.t, t_mv_c0 h h1 fun u2 h2 => ⟨h.t, ?_⟩⟩⟩
  rw [gI_cS h.ne, h.2.2]
  exact q _ h2
theorem t_act_c0 {a : Nat} {R : Int32 → St → Prop} (h : TH n S 0 o nn aa) (hu : TL u l) (ha : a < 4) (k : ∀ u' z, TL u' (aL 3 a nn aa l) → R (aR 3 a nn aa x) (cS S u' z)) : isTh n (cS S u 0) 0 o ∧ ((nI a = 0 → wp_X0_shows_c0 n o x (cS S u 0) (fun r S' => (((gI S' 7 2) = 0 → R r S') ∧ (¬ (gI S' 7 2) = 0 → R (-15 : Int32) S')))) ∧ (¬ nI a = 0 → ((nI a = 1 → wp_X8_moves_c0 n o x (cS S u 0) (fun r S' => (((gI S' 7 2) = 0 → R r S') ∧ (¬ (gI S' 7 2) = 0 → R (-15 : Int32) S')))) ∧ (¬ nI a = 1 → ((nI a = 2 → wp_X8_shares_c0 n o x (cS S u 0) (fun r S' => (((gI S' 7 2) = 0 → R r S') ∧ (¬ (gI S' 7 2) = 0 → R (-15 : Int32) S')))) ∧ (¬ nI a = 2 → wp_X0_tells_c0 n o x (cS S u 0) (fun r S' => (((gI S' 7 2) = 0 → R r S') ∧ (¬ (gI S' 7 2) = 0 → R (-15 : Int32) S'))))))))) := by
  refine ⟨h.t, pk_eq a 0 (fun e => ?_) (fun e0 => pk_eq a 1 (fun e => ?_) (fun e1 => pk_eq a 2 (fun e => ?_) (fun e2 => ?_)))⟩
  · subst e
    exact t_sh_c0 h hu fun u' hu' => br_t gI_cS2 (k u' 0 hu')
  · subst e
    exact t_mv_c0 h hu fun u' hu' => br_t gI_cS2 (k u' 0 hu')
  · subst e
    refine t_sr_c0 h hu (fun e3 u' hu' => br_t gI_cS2 ?_) (fun e3 r u' hu' => br_f (by rw [gI_cS2]; decide) ?_)
    · have kk := k u' 0
      rw [show aL 3 2 nn aa l = srL 3 l from if_neg e3, show aR 3 2 nn aa x = srV 3 nn aa x from if_neg e3] at kk
      exact kk hu'
    · have kk := k u' 1
      rw [show aL 3 2 nn aa l = spL 3 l from if_pos e3, show aR 3 2 nn aa x = -15 from if_pos e3] at kk
      exact kk hu'
  · obtain rfl : a = 3 := by omega
    unfold wp_X0_tells_c0
    refine ⟨h.t, t_b hu fun u1 h1 => ⟨h.t, t_pt_c0 h h1 fun u2 h2 => ⟨h.t, ?_⟩⟩⟩
    rw [gI_cS h.ne, h.2.1]
    refine t_ps_c0 h h2 (fun e3 u' hu' => br_t gI_cS2 ?_) (fun e3 u' hu' => br_f (by rw [gI_cS2]; decide) ?_)
    · have kk := k u' 0
      rw [show aL 3 3 nn aa l = srL 3 (mvL 3 (13 :: 31 :: l)) from if_neg e3, show aR 3 3 nn aa x = (mvV 3 nn aa x ^^^ aa) + srV 3 nn aa nn from if_neg e3] at kk
      exact kk hu'
    · have kk := k u' 1
      rw [show aL 3 3 nn aa l = spL 3 (mvL 3 (13 :: 31 :: l)) from if_pos e3, show aR 3 3 nn aa x = -15 from if_pos e3] at kk
      exact kk hu'
theorem t_sh_c5 {Q : Int32 → St → Prop} (h : TH n S 5 o nn aa) (hu : TL u l) (q : ∀ u', TL u' (shL 4 l) → Q (shV 4 nn x) (cS S u' 0)) : wp_X5_shows_c5 n o x (cS S u 0) Q := by
  unfold wp_X5_shows_c5 wp_X0_shows_c5 wp_X8_shows_c5
  refine ⟨h.t, t_b hu fun u1 h1 => ⟨h.t, h.t, t_b h1 fun u2 h2 => ⟨h.t, h.t, t_b h2 fun u3 h3 => ⟨h.t, ?_⟩⟩⟩⟩
  rw [gI_cS h.ne, h.2.1]
  exact q _ h3
theorem t_pm_c5 {Q : Int32 → St → Prop} (h : TH n S 5 o nn aa) (hu : TL u l) (q : ∀ u', TL u' (shL 4 (11 :: l)) → Q (shV 4 nn x * 2) (cS S u' 0)) : wp_X8_moves_c5 n o x (cS S u 0) Q := by
  unfold wp_X8_moves_c5
  exact ⟨h.t, t_b hu fun u1 h1 => ⟨h.t, t_sh_c5 h h1 fun u2 h2 => q _ h2⟩⟩
theorem t_mv_c5 {Q : Int32 → St → Prop} (h : TH n S 5 o nn aa) (hu : TL u l) (q : ∀ u', TL u' (mvL 4 l) → Q (mvV 4 nn aa x) (cS S u' 0)) : wp_X5_moves_c5 n o x (cS S u 0) Q := by
  unfold wp_X5_moves_c5
  refine ⟨h.t, t_b hu fun u1 h1 => ⟨h.t, t_pm_c5 h h1 fun u2 h2 => ⟨h.t, ?_⟩⟩⟩
  rw [gI_cS h.ne, h.2.1]
  exact t_sh_c5 h h2 fun u3 h3 => q _ h3
theorem t_ps_c5 {Q : Int32 → St → Prop} (h : TH n S 5 o nn aa) (hu : TL u l) (q1 : ¬ aa = nn → ∀ u', TL u' (12 :: l) → Q (x / (aa - nn)) (cS S u' 0)) (q0 : aa = nn → ∀ u', TL u' (12 :: l) → Q 0 (cS S u' 1)) : wp_X8_shares_c5 n o x (cS S u 0) Q := by
  unfold wp_X8_shares_c5
  refine ⟨h.t, t_b hu fun u1 h1 => ⟨h.t, ?_⟩⟩
  rw [gI_cS h.ne, h.2.1, h.2.2]
  exact t_part (fun e => q1 e _ h1) (fun e => q0 e _ h1)
theorem t_sr_c5 {Q : Int32 → St → Prop} (h : TH n S 5 o nn aa) (hu : TL u l) (q1 : ¬ aa = nn → ∀ u', TL u' (srL 4 l) → Q (srV 4 nn aa x) (cS S u' 0)) (q0 : aa = nn → ∀ r u', TL u' (spL 4 l) → Q r (cS S u' 1)) : wp_X8_shares_c5 n o x (cS S u 0) Q := by
  exact t_ps_c5 h hu (fun e u1 h1 => q1 e _ h1) (fun e u1 h1 => q0 e _ _ h1)
theorem t_pt_c5 {Q : Int32 → St → Prop} (h : TH n S 5 o nn aa) (hu : TL u l) (q : ∀ u', TL u' (mvL 4 (13 :: l)) → Q (mvV 4 nn aa x ^^^ aa) (cS S u' 0)) : wp_X8_tells_c5 n o x (cS S u 0) Q := by
  unfold wp_X8_tells_c5
  refine ⟨h.t, t_b hu fun u1 h1 => ⟨h.t, t_mv_c5 h h1 fun u2 h2 => ⟨h.t, ?_⟩⟩⟩
  rw [gI_cS h.ne, h.2.2]
  exact q _ h2
theorem t_act_c5 {a : Nat} {R : Int32 → St → Prop} (h : TH n S 5 o nn aa) (hu : TL u l) (ha : a < 4) (k : ∀ u' z, TL u' (aL 4 a nn aa l) → R (aR 4 a nn aa x) (cS S u' z)) : isTh n (cS S u 0) 5 o ∧ ((nI a = 0 → wp_X5_shows_c5 n o x (cS S u 0) (fun r S' => (((gI S' 7 2) = 0 → R r S') ∧ (¬ (gI S' 7 2) = 0 → R (-15 : Int32) S')))) ∧ (¬ nI a = 0 → ((nI a = 1 → wp_X5_moves_c5 n o x (cS S u 0) (fun r S' => (((gI S' 7 2) = 0 → R r S') ∧ (¬ (gI S' 7 2) = 0 → R (-15 : Int32) S')))) ∧ (¬ nI a = 1 → ((nI a = 2 → wp_X8_shares_c5 n o x (cS S u 0) (fun r S' => (((gI S' 7 2) = 0 → R r S') ∧ (¬ (gI S' 7 2) = 0 → R (-15 : Int32) S')))) ∧ (¬ nI a = 2 → wp_X0_tells_c5 n o x (cS S u 0) (fun r S' => (((gI S' 7 2) = 0 → R r S') ∧ (¬ (gI S' 7 2) = 0 → R (-15 : Int32) S'))))))))) := by
  refine ⟨h.t, pk_eq a 0 (fun e => ?_) (fun e0 => pk_eq a 1 (fun e => ?_) (fun e1 => pk_eq a 2 (fun e => ?_) (fun e2 => ?_)))⟩
  · subst e
    exact t_sh_c5 h hu fun u' hu' => br_t gI_cS2 (k u' 0 hu')
  · subst e
    exact t_mv_c5 h hu fun u' hu' => br_t gI_cS2 (k u' 0 hu')
  · subst e
    refine t_sr_c5 h hu (fun e3 u' hu' => br_t gI_cS2 ?_) (fun e3 r u' hu' => br_f (by rw [gI_cS2]; decide) ?_)
    · have kk := k u' 0
      rw [show aL 4 2 nn aa l = srL 4 l from if_neg e3, show aR 4 2 nn aa x = srV 4 nn aa x from if_neg e3] at kk
      exact kk hu'
    · have kk := k u' 1
      rw [show aL 4 2 nn aa l = spL 4 l from if_pos e3, show aR 4 2 nn aa x = -15 from if_pos e3] at kk
      exact kk hu'
  · obtain rfl : a = 3 := by omega
    unfold wp_X0_tells_c5
    refine ⟨h.t, t_b hu fun u1 h1 => ⟨h.t, t_pt_c5 h h1 fun u2 h2 => ⟨h.t, ?_⟩⟩⟩
    rw [gI_cS h.ne, h.2.1]
    refine t_ps_c5 h h2 (fun e3 u' hu' => br_t gI_cS2 ?_) (fun e3 u' hu' => br_f (by rw [gI_cS2]; decide) ?_)
    · have kk := k u' 0
      rw [show aL 4 3 nn aa l = srL 4 (mvL 4 (13 :: 31 :: l)) from if_neg e3, show aR 4 3 nn aa x = (mvV 4 nn aa x ^^^ aa) + srV 4 nn aa nn from if_neg e3] at kk
      exact kk hu'
    · have kk := k u' 1
      rw [show aL 4 3 nn aa l = spL 4 (mvL 4 (13 :: 31 :: l)) from if_pos e3, show aR 4 3 nn aa x = -15 from if_pos e3] at kk
      exact kk hu'
theorem t_sh_c2 {Q : Int32 → St → Prop} (h : TH n S 2 o nn aa) (hu : TL u l) (q : ∀ u', TL u' (shL 5 l) → Q (shV 5 nn x) (cS S u' 0)) : wp_X8_shows_c2 n o x (cS S u 0) Q := by
  unfold wp_X8_shows_c2
  refine ⟨h.t, t_b hu fun u1 h1 => ⟨h.t, ?_⟩⟩
  rw [gI_cS h.ne, h.2.1]
  exact q _ h1
theorem t_pm_c2 {Q : Int32 → St → Prop} (h : TH n S 2 o nn aa) (hu : TL u l) (q : ∀ u', TL u' (shL 5 (11 :: l)) → Q (shV 5 nn x * 2) (cS S u' 0)) : wp_X8_moves_c2 n o x (cS S u 0) Q := by
  unfold wp_X8_moves_c2
  exact ⟨h.t, t_b hu fun u1 h1 => ⟨h.t, t_sh_c2 h h1 fun u2 h2 => q _ h2⟩⟩
theorem t_mv_c2 {Q : Int32 → St → Prop} (h : TH n S 2 o nn aa) (hu : TL u l) (q : ∀ u', TL u' (mvL 5 l) → Q (mvV 5 nn aa x) (cS S u' 0)) : wp_X8_moves_c2 n o x (cS S u 0) Q := by
  exact t_pm_c2 h hu fun u1 h1 => q _ h1
theorem t_ps_c2 {Q : Int32 → St → Prop} (h : TH n S 2 o nn aa) (hu : TL u l) (q1 : ¬ aa = nn → ∀ u', TL u' (12 :: l) → Q (x / (aa - nn)) (cS S u' 0)) (q0 : aa = nn → ∀ u', TL u' (12 :: l) → Q 0 (cS S u' 1)) : wp_X8_shares_c2 n o x (cS S u 0) Q := by
  unfold wp_X8_shares_c2
  refine ⟨h.t, t_b hu fun u1 h1 => ⟨h.t, ?_⟩⟩
  rw [gI_cS h.ne, h.2.1, h.2.2]
  exact t_part (fun e => q1 e _ h1) (fun e => q0 e _ h1)
theorem t_sr_c2 {Q : Int32 → St → Prop} (h : TH n S 2 o nn aa) (hu : TL u l) (q1 : ¬ aa = nn → ∀ u', TL u' (srL 5 l) → Q (srV 5 nn aa x) (cS S u' 0)) (q0 : aa = nn → ∀ r u', TL u' (spL 5 l) → Q r (cS S u' 1)) : wp_X2_shares_c2 n o x (cS S u 0) Q := by
  unfold wp_X2_shares_c2
  refine ⟨h.t, t_b hu fun u1 h1 => ⟨h.t, t_ps_c2 h h1 (fun e u2 h2 => ⟨h.t, ?_⟩) (fun e u2 h2 => ⟨h.t, ?_⟩)⟩⟩
  · rw [gI_cS h.ne, h.2.2]
    exact t_sh_c2 h h2 fun u3 h3 => q1 e _ h3
  · unfold wp_X8_shows_c2
    exact ⟨h.t, t_bp ⟨h.t, q0 e _ _ h2⟩⟩
theorem t_pt_c2 {Q : Int32 → St → Prop} (h : TH n S 2 o nn aa) (hu : TL u l) (q : ∀ u', TL u' (mvL 5 (13 :: l)) → Q (mvV 5 nn aa x ^^^ aa) (cS S u' 0)) : wp_X8_tells_c2 n o x (cS S u 0) Q := by
  unfold wp_X8_tells_c2
  refine ⟨h.t, t_b hu fun u1 h1 => ⟨h.t, t_mv_c2 h h1 fun u2 h2 => ⟨h.t, ?_⟩⟩⟩
  rw [gI_cS h.ne, h.2.2]
  exact q _ h2
theorem t_act_c2 {a : Nat} {R : Int32 → St → Prop} (h : TH n S 2 o nn aa) (hu : TL u l) (ha : a < 4) (k : ∀ u' z, TL u' (aL 5 a nn aa l) → R (aR 5 a nn aa x) (cS S u' z)) : isTh n (cS S u 0) 2 o ∧ ((nI a = 0 → wp_X8_shows_c2 n o x (cS S u 0) (fun r S' => (((gI S' 7 2) = 0 → R r S') ∧ (¬ (gI S' 7 2) = 0 → R (-15 : Int32) S')))) ∧ (¬ nI a = 0 → ((nI a = 1 → wp_X8_moves_c2 n o x (cS S u 0) (fun r S' => (((gI S' 7 2) = 0 → R r S') ∧ (¬ (gI S' 7 2) = 0 → R (-15 : Int32) S')))) ∧ (¬ nI a = 1 → ((nI a = 2 → wp_X2_shares_c2 n o x (cS S u 0) (fun r S' => (((gI S' 7 2) = 0 → R r S') ∧ (¬ (gI S' 7 2) = 0 → R (-15 : Int32) S')))) ∧ (¬ nI a = 2 → wp_X2_tells_c2 n o x (cS S u 0) (fun r S' => (((gI S' 7 2) = 0 → R r S') ∧ (¬ (gI S' 7 2) = 0 → R (-15 : Int32) S'))))))))) := by
  refine ⟨h.t, pk_eq a 0 (fun e => ?_) (fun e0 => pk_eq a 1 (fun e => ?_) (fun e1 => pk_eq a 2 (fun e => ?_) (fun e2 => ?_)))⟩
  · subst e
    exact t_sh_c2 h hu fun u' hu' => br_t gI_cS2 (k u' 0 hu')
  · subst e
    exact t_mv_c2 h hu fun u' hu' => br_t gI_cS2 (k u' 0 hu')
  · subst e
    refine t_sr_c2 h hu (fun e3 u' hu' => br_t gI_cS2 ?_) (fun e3 r u' hu' => br_f (by rw [gI_cS2]; decide) ?_)
    · have kk := k u' 0
      rw [show aL 5 2 nn aa l = srL 5 l from if_neg e3, show aR 5 2 nn aa x = srV 5 nn aa x from if_neg e3] at kk
      exact kk hu'
    · have kk := k u' 1
      rw [show aL 5 2 nn aa l = spL 5 l from if_pos e3, show aR 5 2 nn aa x = -15 from if_pos e3] at kk
      exact kk hu'
  · obtain rfl : a = 3 := by omega
    unfold wp_X2_tells_c2
    exact ⟨h.t, t_b hu fun u1 h1 => ⟨h.t, t_pt_c2 h h1 fun u' hu' => br_t gI_cS2 (k u' 0 hu')⟩⟩
end TC
/-! the reference's -/
def KD (T : St) (kd : Nat) (nn aa : Int32) : Prop := gI T 0 29 = nI kd ∧ gI T 0 30 = nn ∧ gI T 0 31 = aa
section RA
variable {T : St} {kd : Nat} {nn aa x b z : Int32} {u : TT} {l : List Int32} {Q : Int32 → St → Prop}
theorem KD.k (h : KD T kd nn aa) : gI (rS T u z) 0 29 = nI kd := (gI_rS (by decide) (by decide)).trans h.1
theorem KD.n (h : KD T kd nn aa) : gI (rS T u z) 0 30 = nn := (gI_rS (by decide) (by decide)).trans h.2.1
theorem KD.a (h : KD T kd nn aa) : gI (rS T u z) 0 31 = aa := (gI_rS (by decide) (by decide)).trans h.2.2
theorem r_ran {Q : St → Prop} (hu : TL u l) (q : ∀ v, TL v (b :: l) → Q (rS T v z)) : wp_X12_ran b (rS T u z) Q := by
  have := hu.le
  unfold wp_X12_ran
  rw [gI_rS3]
  refine pk_le 30 u.1 (fun e => q _ (hu.full e)) (fun e => ?_)
  rw [nI_clamp (by omega)]
  refine ⟨vp_in_nI e (by decide), nm_e (nm_r (rS_st ?_) (q _ (hu.push e)))⟩
  show gI (rS T u z) 0 33 + 1 = _
  rw [gI_rS3]
  exact nI_1 _
theorem r_pSh (h : KD T kd nn aa) (hu : TL u l) (q : ∀ v, TL v (10 :: l) → Q (x + nn) (rS T v z)) : wp_X12_plainShows x (rS T u z) Q := by
  unfold wp_X12_plainShows
  refine r_ran hu fun v hv => ?_
  rw [h.n]
  exact q v hv
theorem r_dSh (h : KD T kd nn aa) (hu : TL u l) (q : ∀ v, TL v (10 :: 30 :: l) → Q ((x + nn) * 3) (rS T v z)) : wp_X12_darkShows x (rS T u z) Q := by
  unfold wp_X12_darkShows
  exact r_ran hu fun v hv => r_pSh h hv fun v2 hv2 => q v2 hv2
theorem r_sh (h : KD T kd nn aa) (hk : kd < 6) (hu : TL u l) (q : ∀ v, TL v (shL kd l) → Q (shV kd nn x) (rS T v z)) : wp_X12_showsIt x (rS T u z) Q := by
  unfold wp_X12_showsIt
  rw [h.k]
  refine pk_eq kd 2 (fun e => ?_) (fun e2 => pk_eq kd 3 (fun e => ?_) (fun e3 => pk_eq kd 4 (fun e => ?_) (fun e4 => ?_)))
  · subst e
    refine r_ran hu fun v hv => r_pSh h hv fun v2 hv2 => ?_
    rw [h.n]
    exact q v2 hv2
  · subst e
    exact r_dSh h hu fun v hv => q v hv
  · subst e
    exact r_ran hu fun v hv => r_dSh h hv fun v2 hv2 => q v2 hv2
  · unfold shL shV at q
    rw [if_neg e2, if_neg e3, if_neg e4, if_neg e2, if_neg e3, if_neg e4] at q
    exact r_pSh h hu q
theorem r_pMv (h : KD T kd nn aa) (hk : kd < 6) (hu : TL u l) (q : ∀ v, TL v (shL kd (11 :: l)) → Q (shV kd nn x * 2) (rS T v z)) : wp_X12_plainMoves x (rS T u z) Q := by
  unfold wp_X12_plainMoves
  exact r_ran hu fun v hv => r_sh h hk hv fun v2 hv2 => q v2 hv2
theorem r_mv (h : KD T kd nn aa) (hk : kd < 6) (hu : TL u l) (q : ∀ v, TL v (mvL kd l) → Q (mvV kd nn aa x) (rS T v z)) : wp_X12_movesIt x (rS T u z) Q := by
  unfold wp_X12_movesIt
  rw [h.k]
  refine pk_eq kd 1 (fun e => ?_) (fun e1 => pk_eq kd 2 (fun e => ?_) (fun e2 => pk_eq kd 4 (fun e => ?_) (fun e4 => ?_)))
  · subst e
    refine r_ran hu fun v hv => r_pMv h hk hv fun v2 hv2 => ?_
    rw [h.a]
    exact q v2 hv2
  · subst e
    refine r_ran hu fun v hv => r_pMv h hk hv fun v2 hv2 => ?_
    rw [h.a]
    exact q v2 hv2
  · subst e
    refine r_ran hu fun v hv => r_pMv h hk hv fun v2 hv2 => ?_
    rw [h.n]
    exact r_sh h hk hv2 fun v3 hv3 => q v3 hv3
  · unfold mvL mvV at q
    rw [if_neg e1, if_neg e2, if_neg e4, if_neg e1, if_neg e2, if_neg e4] at q
    exact r_pMv h hk hu q
theorem r_pSr (h : KD T kd nn aa) (hu : TL u l) (q1 : ¬ aa = nn → ∀ v, TL v (12 :: l) → Q (x / (aa - nn)) (rS T v 0)) (q0 : aa = nn → ∀ v, TL v (12 :: l) → Q 0 (rS T v 1)) : wp_X12_plainShares x (rS T u 0) Q := by
  unfold wp_X12_plainShares
  refine r_ran hu fun v hv => ?_
  rw [h.a, h.n]
  refine ⟨fun e => nm_r (rS_z rfl) (q0 e v hv), fun e => ⟨fun y => e ?_, q1 e v hv⟩⟩
  have := Int32.sub_add_cancel aa nn
  rw [y, Int32.zero_add] at this
  exact this.symm
theorem r_sr (h : KD T kd nn aa) (hk : kd < 6) (hu : TL u l) (q1 : ¬ aa = nn → ∀ v, TL v (srL kd l) → Q (srV kd nn aa x) (rS T v 0)) (q0 : aa = nn → ∀ r v, TL v (spL kd l) → Q r (rS T v 1)) : wp_X12_sharesIt x (rS T u 0) Q := by
  unfold wp_X12_sharesIt
  rw [h.k]
  refine pk_eq kd 2 (fun e => ?_) (fun e2 => pk_eq kd 5 (fun e => ?_) (fun e5 => ?_))
  · subst e
    exact r_ran hu fun v hv => r_pSr h hv (fun e v2 hv2 => q1 e v2 hv2) (fun e v2 hv2 => q0 e _ v2 hv2)
  · subst e
    refine r_ran hu fun v hv => r_pSr h hv (fun e v2 hv2 => br_t gI_rS4 ?_) (fun e v2 hv2 => br_f (by rw [gI_rS4]; decide) (q0 e _ v2 hv2))
    rw [h.a]
    exact r_sh h hk hv2 fun v3 hv3 => q1 e v3 hv3
  · unfold srL srV at q1
    unfold spL at q0
    rw [if_neg e2, if_neg e5, if_neg e2, if_neg e5] at q1
    rw [if_neg e2, if_neg e5] at q0
    exact r_pSr h hu q1 (fun e => q0 e _)
theorem r_pTl (h : KD T kd nn aa) (hk : kd < 6) (hu : TL u l) (q : ∀ v, TL v (mvL kd (13 :: l)) → Q (mvV kd nn aa x ^^^ aa) (rS T v z)) : wp_X12_plainTells x (rS T u z) Q := by
  unfold wp_X12_plainTells
  refine r_ran hu fun v hv => r_mv h hk hv fun v2 hv2 => ?_
  rw [h.a]
  exact q v2 hv2
theorem r_act {a : Nat} {R : Int32 → St → Prop} (h : KD T kd nn aa) (hk : kd < 6) (hu : TL u l) (ha : a < 4) (k : ∀ v z, TL v (aL kd a nn aa l) → R (aR kd a nn aa x) (rS T v z)) : (nI a = 0 → wp_X12_showsIt x (rS T u 0) (fun r S' => (((gI S' 0 34) = 0 → R r S') ∧ (¬ (gI S' 0 34) = 0 → R (-15 : Int32) S')))) ∧ (¬ nI a = 0 → ((nI a = (1 : Int32) → wp_X12_movesIt x (rS T u 0) (fun r S' => (((gI S' 0 34) = 0 → R r S') ∧ (¬ (gI S' 0 34) = 0 → R (-15 : Int32) S')))) ∧ (¬ nI a = (1 : Int32) → ((nI a = (2 : Int32) → wp_X12_sharesIt x (rS T u 0) (fun r S' => (((gI S' 0 34) = 0 → R r S') ∧ (¬ (gI S' 0 34) = 0 → R (-15 : Int32) S')))) ∧ (¬ nI a = (2 : Int32) → wp_X12_tellsIt x (rS T u 0) (fun r S' => (((gI S' 0 34) = 0 → R r S') ∧ (¬ (gI S' 0 34) = 0 → R (-15 : Int32) S')))))))) := by
  refine pk_eq a 0 (fun e => ?_) (fun e0 => pk_eq a 1 (fun e => ?_) (fun e1 => pk_eq a 2 (fun e => ?_) (fun e2 => ?_)))
  · subst e
    exact r_sh h hk hu fun v hv => br_t gI_rS4 (k v 0 hv)
  · subst e
    exact r_mv h hk hu fun v hv => br_t gI_rS4 (k v 0 hv)
  · subst e
    refine r_sr h hk hu (fun e3 v hv => br_t gI_rS4 ?_) (fun e3 r v hv => br_f (by rw [gI_rS4]; decide) ?_)
    · have kk := k v 0
      rw [show aL kd 2 nn aa l = srL kd l from if_neg e3, show aR kd 2 nn aa x = srV kd nn aa x from if_neg e3] at kk
      exact kk hv
    · have kk := k v 1
      rw [show aL kd 2 nn aa l = spL kd l from if_pos e3, show aR kd 2 nn aa x = -15 from if_pos e3] at kk
      exact kk hv
  · obtain rfl : a = 3 := by omega
    have t16 : ∀ kd', kd = kd' → (kd' = 3 ∨ kd' = 4) → wj_X12_tellsIt_16 x (fun r S' => (((gI S' 0 34) = 0 → R r S') ∧ (¬ (gI S' 0 34) = 0 → R (-15 : Int32) S'))) (rS T u 0) := by
      intro kd' e hkd
      subst e
      unfold wj_X12_tellsIt_16
      refine r_ran hu fun v hv => r_pTl h hk hv fun v2 hv2 => ?_
      rw [h.n]
      have e16 : ¬ aa = nn → aL kd 3 nn aa l = srL kd (mvL kd (13 :: 31 :: l)) ∧ aR kd 3 nn aa x = (mvV kd nn aa x ^^^ aa) + srV kd nn aa nn := by
        intro e3
        rcases hkd with rfl | rfl
        · exact ⟨if_neg e3, if_neg e3⟩
        · exact ⟨if_neg e3, if_neg e3⟩
      have e17 : aa = nn → aL kd 3 nn aa l = spL kd (mvL kd (13 :: 31 :: l)) ∧ aR kd 3 nn aa x = -15 := by
        intro e3
        rcases hkd with rfl | rfl
        · exact ⟨if_pos e3, if_pos e3⟩
        · exact ⟨if_pos e3, if_pos e3⟩
      refine r_sr h hk hv2 (fun e3 v' hv' => br_t gI_rS4 ?_) (fun e3 r v' hv' => br_f (by rw [gI_rS4]; decide) ?_)
      · have kk := k v' 0
        rw [(e16 e3).1, (e16 e3).2] at kk
        exact kk hv'
      · have kk := k v' 1
        rw [(e17 e3).1, (e17 e3).2] at kk
        exact kk hv'
    unfold wp_X12_tellsIt
    rw [h.k]
    refine pk_eq kd 3 (fun e => t16 3 e (Or.inl rfl)) (fun e3 => pk_eq kd 4 (fun e => t16 4 e (Or.inr rfl)) (fun e4 => pk_eq kd 5 (fun e => ?_) (fun e5 => ?_)))
    · subst e
      exact r_ran hu fun v hv => r_pTl h hk hv fun v2 hv2 => br_t gI_rS4 (k v2 0 hv2)
    · have eL : aL kd 3 nn aa l = mvL kd (13 :: l) := by
        show (if kd = 3 then _ else if kd = 4 then _ else if kd = 5 then _ else mvL kd (13 :: l)) = _
        rw [if_neg e3, if_neg e4, if_neg e5]
      have eR : aR kd 3 nn aa x = mvV kd nn aa x ^^^ aa := by
        show (if kd = 3 then _ else if kd = 4 then _ else if kd = 5 then _ else mvV kd nn aa x ^^^ aa) = _
        rw [if_neg e3, if_neg e4, if_neg e5]
      refine r_pTl h hk hu fun v hv => br_t gI_rS4 ?_
      have kk := k v 0
      rw [eL, eR] at kk
      exact kk hv
end RA
