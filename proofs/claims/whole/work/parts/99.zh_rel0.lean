/-! AT THE START the states are related. -/
theorem lt4 {j : Nat} (h : j < 4) : j = 0 ∨ j = 1 ∨ j = 2 ∨ j = 3 := by omega
theorem lt12 {j : Nat} (h : j < 12) : j = 0 ∨ j = 1 ∨ j = 2 ∨ j = 3 ∨ j = 4 ∨ j = 5 ∨ j = 6 ∨ j = 7 ∨ j = 8 ∨ j = 9 ∨ j = 10 ∨ j = 11 := by omega
theorem i0_n9 (p : Nat) : gN S00 (9 + 3) p = 21 + 2 * p := rfl
theorem i0_n13 (p : Nat) : gN S00 (13 + 3) p = 33 + 2 * p := rfl
theorem i0_n17 (p : Nat) : gN S00 (17 + 3) p = 45 + 2 * p := rfl
theorem i0_ic : IC S00 := by
  refine ⟨Or.inl ⟨rfl, rfl⟩, fun w p hw hp => ?_, fun w p w' p' hw hw' hp hp' h => ?_⟩
  · unfold isPn
    rcases hw with rfl | rfl | rfl
    · rw [i0_n9]; omega
    · rw [i0_n13]; omega
    · rw [i0_n17]; omega
  · rcases hw with rfl | rfl | rfl <;> rcases hw' with rfl | rfl | rfl <;> simp only [i0_n9, i0_n13, i0_n17] at h <;> omega
theorem i0_fc : FC S00 := by
  intro P hP
  refine ⟨0, by decide, ?_⟩
  show (if P = 1 ∧ (1 : Nat) = 4 then (-1 : Int32) else if (P = 9 ∨ P = 13 ∨ P = 17) ∧ (1 : Nat) = 5 then 1 else if 21 ≤ P ∧ P % 2 = 1 ∧ (1 : Nat) = 3 then 1 else if 21 ≤ P ∧ P % 2 = 1 ∧ (1 : Nat) = 4 then 4 else 0) = nI 0
  rw [if_neg (by omega), if_neg (by omega), if_neg (by omega), if_neg (by omega)]
  rfl
theorem i0_l1 : NR (gA S00 (13 + 2)) (fun _ => 1) 12 9 := by
  intro j hj
  refine ⟨?_, show (1 : Nat) ≤ 9 by decide⟩
  rcases lt12 hj with rfl | rfl | rfl | rfl | rfl | rfl | rfl | rfl | rfl | rfl | rfl | rfl <;> decide
theorem i0_l2 : NR (gA T00 2) (fun _ => 1) 12 9 := by
  intro j hj
  refine ⟨?_, show (1 : Nat) ≤ 9 by decide⟩
  rcases lt12 hj with rfl | rfl | rfl | rfl | rfl | rfl | rfl | rfl | rfl | rfl | rfl | rfl <;> decide
theorem i0_cur : Cur S00 T00 (fun _ => 0) (fun _ => 1) 0 0 (fun _ => (0, 1, 0, fun _ => 0)) := by
  refine ⟨⟨fun j _ => ⟨rfl, Nat.zero_le _⟩, i0_l1, rfl, rfl, fun j hj => absurd hj (Nat.not_lt_zero j)⟩, ⟨Nat.zero_le _, Nat.zero_le _, fun j hj => absurd hj (Nat.not_lt_zero j)⟩, fun j _ => ⟨rfl, Nat.zero_le _⟩, i0_l2, ⟨rfl, rfl, fun j hj => absurd hj (Nat.not_lt_zero j)⟩, rfl⟩
theorem i0_sh {n : List Nat} : RSheets n S00 T00 := by
  refine ⟨fun s hs => Or.inl ⟨rfl, ?_⟩, fun s s' _ _ h => absurd rfl h⟩
  rcases lt4 hs with rfl | rfl | rfl | rfl <;> decide
theorem i0_sv {n : List Nat} : RShelves n S00 T00 := by
  intro s hs
  refine Or.inl ⟨?_, ?_, rfl⟩
  · rcases lt4 hs with rfl | rfl | rfl | rfl <;> decide
  · rcases lt4 hs with rfl | rfl | rfl | rfl <;> decide
theorem rel0 : Rel n00 S00 T00 :=
  ⟨i0_ic, i0_fc, rfl, ⟨_, _, _, _, _, i0_cur⟩, ⟨rfl, Or.inl rfl⟩, ⟨0, Nat.zero_le _, rfl, rfl, fun j hj => absurd hj (Nat.not_lt_zero j)⟩, ⟨0, Nat.zero_le _, rfl, rfl, fun j hj => absurd hj (by omega)⟩, i0_sh, i0_sv, ⟨0, Nat.zero_le _, rfl, rfl, fun j hj => absurd hj (Nat.not_lt_zero j)⟩⟩
theorem allSteps : AllSteps Rel :=
  ⟨st_feed, st_quarry, st_view, st_viewOf, st_love, st_pane, st_paneOf, st_glimpse, st_hang, st_cast, st_today, st_days, st_turn, st_cut, st_lay, st_drop, st_dark, st_seen, st_worth, st_buy, st_let, st_best, st_turned, st_will, st_seed, st_draw, st_prove, st_row, st_alterRow, st_judge, st_views, st_sheet, st_put, st_item, st_shelf, st_taken, st_act, st_trace, st_many, st_keep, st_again⟩
