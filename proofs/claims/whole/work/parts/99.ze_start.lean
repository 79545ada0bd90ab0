/-! WHAT THE START GIVES: the words of nest mates, of strings, of rows of references. -/
def sIdx : List Nat := [74, 76, 78, 80, 82, 84, 94, 100, 43, 52, 57]
def tmS (i : Nat) : Term := .string RX4 (sIdx.getD i 0)
def nF : List Cond := flatC (Jvm.Cond.and given_1 narrow_1)
theorem nf_ex : ∀ i, i < 11 → Cond.exactly (tmS i) "java/lang/String" ∈ nF := by decide +kernel
theorem nf_co : ∀ i, i < 11 → Cond.eq (.field (tmS i) "java/lang/String" "coder" "B") (.int 0) ∈ nF := by decide +kernel
theorem nf_ar : ∀ i, i < 11 → Cond.arrayOf (.field (tmS i) "java/lang/String" "value" "[B") .byte ∈ nF := by decide +kernel
theorem nf_le : ∀ i, i < 11 → Cond.eq (.length (.field (tmS i) "java/lang/String" "value" "[B")) (.int (Int32.ofNat (sLen.getD i 0))) ∈ nF := by decide +kernel
theorem nf_el : ∀ i, i < 11 → ∀ j, j < sLen.getD i 0 → Cond.eq (.elem (.field (tmS i) "java/lang/String" "value" "[B") (.int (Int32.ofNat j))) (.int ((sByt.getD i []).getD j 0)) ∈ nF := by decide +kernel
theorem nf_ne : ∀ i, i < 11 → ∀ j, j < 11 → i ≠ j → (Cond.not (Cond.eq (tmS i) (tmS j)) ∈ nF ∨ Cond.not (Cond.eq (tmS j) (tmS i)) ∈ nF) := by decide +kernel
theorem nf_cs : Cond.eq (.static "java/lang/String" "COMPACT_STRINGS" "Z") (.int 1) ∈ nF := by decide +kernel
theorem nf_si : Cond.isRef (.static "jdk/internal/util/Preconditions" "SIOOBE_FORMATTER" "Ljava/util/function/BiFunction;") ∈ nF := by decide +kernel
theorem lw_ls1 : (Cond.laysStatic "java/lang/String" "COMPACT_STRINGS" "Z") ∈ lw_tbl := (List.mem_append_right _ (List.mem_of_getElem? (i := 221) (by decide +kernel)))
theorem lw_ls2 : (Cond.laysStatic "jdk/internal/util/Preconditions" "SIOOBE_FORMATTER" "Ljava/util/function/BiFunction;") ∈ lw_tbl := (List.mem_append_right _ (List.mem_of_getElem? (i := 237) (by decide +kernel)))
theorem lw_in1 : (Cond.initialized "java/lang/String") ∈ lw_tbl := (lm_r7 _ (List.mem_of_getElem? (i := 5) (by decide +kernel)))
theorem lw_in2 : (Cond.initialized "jdk/internal/util/Preconditions") ∈ lw_tbl := (lm_r8 _ (List.mem_of_getElem? (i := 8) (by decide +kernel)))
theorem lw_sr0 : (Cond.stringRef RX4 74 "pane") ∈ lw_tbl := (List.mem_append_right _ (List.mem_of_getElem? (i := 207) (by decide +kernel)))
theorem lw_sr1 : (Cond.stringRef RX4 76 "thick") ∈ lw_tbl := (List.mem_append_right _ (List.mem_of_getElem? (i := 260) (by decide +kernel)))
theorem lw_sr2 : (Cond.stringRef RX4 78 "double") ∈ lw_tbl := (List.mem_append_right _ (List.mem_of_getElem? (i := 261) (by decide +kernel)))
theorem lw_sr3 : (Cond.stringRef RX4 80 "dark") ∈ lw_tbl := (List.mem_append_right _ (List.mem_of_getElem? (i := 262) (by decide +kernel)))
theorem lw_sr4 : (Cond.stringRef RX4 82 "rippled") ∈ lw_tbl := (List.mem_append_right _ (List.mem_of_getElem? (i := 263) (by decide +kernel)))
theorem lw_sr5 : (Cond.stringRef RX4 84 "mirror") ∈ lw_tbl := (List.mem_append_right _ (List.mem_of_getElem? (i := 264) (by decide +kernel)))
theorem lw_sr6 : (Cond.stringRef RX4 94 "at") ∈ lw_tbl := (List.mem_append_right _ (List.mem_of_getElem? (i := 293) (by decide +kernel)))
theorem lw_sr7 : (Cond.stringRef RX4 100 "from") ∈ lw_tbl := (List.mem_append_right _ (List.mem_of_getElem? (i := 299) (by decide +kernel)))
theorem lw_sr8 : (Cond.stringRef RX4 43 "view") ∈ lw_tbl := (List.mem_append_right _ (List.mem_of_getElem? (i := 294) (by decide +kernel)))
theorem lw_sr9 : (Cond.stringRef RX4 52 "love") ∈ lw_tbl := (List.mem_append_right _ (List.mem_of_getElem? (i := 315) (by decide +kernel)))
theorem lw_sr10 : (Cond.stringRef RX4 57 "today") ∈ lw_tbl := (List.mem_append_right _ (List.mem_of_getElem? (i := 323) (by decide +kernel)))
theorem lw_ao0 : (Cond.arrayOver (.object "SlowPanes$Pane")) ∈ lw_tbl := (List.mem_append_right _ (List.mem_of_getElem? (i := 108) (by decide +kernel)))
theorem lw_ao1 : (Cond.arrayOver (.object "SlowPanes$Sheet")) ∈ lw_tbl := (List.mem_append_right _ (List.mem_of_getElem? (i := 81) (by decide +kernel)))
theorem nt_nest : ∀ w ∈ nestW, w ∈ lw_tbl := List.forall_mem_cons.mpr ⟨(List.mem_append_right _ (List.mem_of_getElem? (i := 30) (by decide +kernel))), List.forall_mem_cons.mpr ⟨(List.mem_append_right _ (List.mem_of_getElem? (i := 59) (by decide +kernel))), List.forall_mem_cons.mpr ⟨(List.mem_append_right _ (List.mem_of_getElem? (i := 84) (by decide +kernel))), List.forall_mem_cons.mpr ⟨(List.mem_append_right _ (List.mem_of_getElem? (i := 424) (by decide +kernel))), List.forall_mem_cons.mpr ⟨(List.mem_append_right _ (List.mem_of_getElem? (i := 312) (by decide +kernel))), List.forall_mem_cons.mpr ⟨(List.mem_append_right _ (List.mem_of_getElem? (i := 320) (by decide +kernel))), List.forall_mem_cons.mpr ⟨(List.mem_append_right _ (List.mem_of_getElem? (i := 109) (by decide +kernel))), List.forall_mem_cons.mpr ⟨(List.mem_append_right _ (List.mem_of_getElem? (i := 385) (by decide +kernel))), List.forall_mem_cons.mpr ⟨(List.mem_append_right _ (List.mem_of_getElem? (i := 505) (by decide +kernel))), fun _ h => absurd h List.not_mem_nil⟩⟩⟩⟩⟩⟩⟩⟩⟩
theorem st_AO {args : Array Value} {s : State} (hs : ∀ w ∈ nF, w.before args s = true) (hts : ∀ w ∈ lw_tbl, w.before args s = true) : va_AO "SlowPanes$Pane" s ∧ va_AO "SlowPanes$Sheet" s := ⟨va_AO.of (hts _ lw_ao0), va_AO.of (hts _ lw_ao1)⟩
theorem st_NW {args : Array Value} {s : State} (hts : ∀ w ∈ lw_tbl, w.before args s = true) : NW s := by
  intro w hw
  have h1 := hts w (nt_nest w hw)
  simp only [nestW, List.mem_cons, List.not_mem_nil, or_false] at hw
  rcases hw with rfl | rfl | rfl | rfl | rfl | rfl | rfl | rfl | rfl <;> exact va_Nw.of rfl h1
theorem st_SX {args : Array Value} {s : State} (hs : ∀ w ∈ nF, w.before args s = true) (hts : ∀ w ∈ lw_tbl, w.before args s = true) : ∃ adK adV : Nat → Nat, SX adK adV (fun q : Nat => s.heap.size ≤ q) s s.heap := by
  have hA : ∀ a : Nat, a < s.heap.size → ¬ (fun q : Nat => s.heap.size ≤ q) a := fun a h => Nat.not_le.mpr h
  obtain ⟨adK, adV, h1, h2⟩ := vk_Sof (N := 11) (tm := tmS) (len := sLen) (byt := sByt) (A := fun q : Nat => s.heap.size ≤ q) (by decide +kernel) (fun i hi => hs _ (nf_ex i hi)) (fun i hi => hs _ (nf_co i hi)) (fun i hi => hs _ (nf_ar i hi)) (fun i hi => hs _ (nf_le i hi)) (fun i hi j hj => hs _ (nf_el i hi j hj)) (fun i j hi hj hne => (nf_ne i hi j hj hne).imp (hs _) (hs _)) hA
  refine ⟨adK, adV, va_Zof (hts _ lw_ls1) (hts _ lw_in1) (va_eqt (hs _ nf_cs)) hA, va_Zqof (hts _ lw_ls2) (hts _ lw_in2) (hs _ nf_si) hA, h1, ?_⟩
  intro t ht
  simp only [sTab, List.mem_cons, List.not_mem_nil, or_false] at ht
  rcases ht with rfl | rfl | rfl | rfl | rfl | rfl | rfl | rfl | rfl | rfl | rfl

  · exact vk_R.of (hts _ lw_sr0) (h2 0 (by decide))
  · exact vk_R.of (hts _ lw_sr1) (h2 1 (by decide))
  · exact vk_R.of (hts _ lw_sr2) (h2 2 (by decide))
  · exact vk_R.of (hts _ lw_sr3) (h2 3 (by decide))
  · exact vk_R.of (hts _ lw_sr4) (h2 4 (by decide))
  · exact vk_R.of (hts _ lw_sr5) (h2 5 (by decide))
  · exact vk_R.of (hts _ lw_sr6) (h2 6 (by decide))
  · exact vk_R.of (hts _ lw_sr7) (h2 7 (by decide))
  · exact vk_R.of (hts _ lw_sr8) (h2 8 (by decide))
  · exact vk_R.of (hts _ lw_sr9) (h2 9 (by decide))
  · exact vk_R.of (hts _ lw_sr10) (h2 10 (by decide))
