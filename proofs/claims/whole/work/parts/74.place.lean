/-! ===== each cell stands at its place ===== -/
set_option maxRecDepth 20000 in
theorem cst_0 (g : Gl) (h0 h1 qL : Nat) (a : Nat → Nat → Nat) (b : Nat → Nat) (i : Nat) (hi : i < ctn 0) : (LL g h0 h1 qL a b)[iot (0, i)]? = some (adG h0 h1 qL a b 0 i, en (gW g (adG h0 h1 qL a b)) 0 i (St0 0 i)) := by
  have hi1 : i < 1 := hi
  obtain rfl : i = 0 := by omega
  rw [e_fund]
  rfl
set_option maxRecDepth 20000 in
theorem cst_1 (g : Gl) (h0 h1 qL : Nat) (a : Nat → Nat → Nat) (b : Nat → Nat) (i : Nat) (hi : i < ctn 1) : (LL g h0 h1 qL a b)[iot (1, i)]? = some (adG h0 h1 qL a b 1 i, en (gW g (adG h0 h1 qL a b)) 1 i (St0 1 i)) := by
  have hi1 : i < 1 := hi
  obtain rfl : i = 0 := by omega
  rw [en_ref _ _ _ rfl]
  rfl
set_option maxRecDepth 20000 in
theorem cst_2 (g : Gl) (h0 h1 qL : Nat) (a : Nat → Nat → Nat) (b : Nat → Nat) (i : Nat) (hi : i < ctn 2) : (LL g h0 h1 qL a b)[iot (2, i)]? = some (adG h0 h1 qL a b 2 i, en (gW g (adG h0 h1 qL a b)) 2 i (St0 2 i)) := by
  have hi1 : i < 1 := hi
  obtain rfl : i = 0 := by omega
  rw [e_auc]
  rfl
set_option maxRecDepth 20000 in
theorem cst_3 (g : Gl) (h0 h1 qL : Nat) (a : Nat → Nat → Nat) (b : Nat → Nat) (i : Nat) (hi : i < ctn 3) : (LL g h0 h1 qL a b)[iot (3, i)]? = some (adG h0 h1 qL a b 3 i, en (gW g (adG h0 h1 qL a b)) 3 i (St0 3 i)) := by
  have hi1 : i < 1 := hi
  obtain rfl : i = 0 := by omega
  rw [e_par]
  rfl
set_option maxRecDepth 20000 in
theorem cst_4 (g : Gl) (h0 h1 qL : Nat) (a : Nat → Nat → Nat) (b : Nat → Nat) (i : Nat) (hi : i < ctn 4) : (LL g h0 h1 qL a b)[iot (4, i)]? = some (adG h0 h1 qL a b 4 i, en (gW g (adG h0 h1 qL a b)) 4 i (St0 4 i)) := by
  have hi1 : i < 10 := hi
  rw [e_mem]
  rcases (by omega : i = 0 ∨ i = 1 ∨ i = 2 ∨ i = 3 ∨ i = 4 ∨ i = 5 ∨ i = 6 ∨ i = 7 ∨ i = 8 ∨ i = 9) with rfl | rfl | rfl | rfl | rfl | rfl | rfl | rfl | rfl | rfl <;> rfl
set_option maxRecDepth 20000 in
theorem cst_5 (g : Gl) (h0 h1 qL : Nat) (a : Nat → Nat → Nat) (b : Nat → Nat) (i : Nat) (hi : i < ctn 5) : (LL g h0 h1 qL a b)[iot (5, i)]? = some (adG h0 h1 qL a b 5 i, en (gW g (adG h0 h1 qL a b)) 5 i (St0 5 i)) := by
  have hi1 : i < 10 := hi
  rw [e_arr _ _ (by decide) (by decide) rfl]
  rcases (by omega : i = 0 ∨ i = 1 ∨ i = 2 ∨ i = 3 ∨ i = 4 ∨ i = 5 ∨ i = 6 ∨ i = 7 ∨ i = 8 ∨ i = 9) with rfl | rfl | rfl | rfl | rfl | rfl | rfl | rfl | rfl | rfl <;> rfl
set_option maxRecDepth 20000 in
theorem cst_6 (g : Gl) (h0 h1 qL : Nat) (a : Nat → Nat → Nat) (b : Nat → Nat) (i : Nat) (hi : i < ctn 6) : (LL g h0 h1 qL a b)[iot (6, i)]? = some (adG h0 h1 qL a b 6 i, en (gW g (adG h0 h1 qL a b)) 6 i (St0 6 i)) := by
  have hi1 : i < 1 := hi
  obtain rfl : i = 0 := by omega
  rw [en_ref _ _ _ rfl]
  rfl
set_option maxRecDepth 20000 in
theorem cst_7 (g : Gl) (h0 h1 qL : Nat) (a : Nat → Nat → Nat) (b : Nat → Nat) (i : Nat) (hi : i < ctn 7) : (LL g h0 h1 qL a b)[iot (7, i)]? = some (adG h0 h1 qL a b 7 i, en (gW g (adG h0 h1 qL a b)) 7 i (St0 7 i)) := by
  have hi1 : i < 10 := hi
  rw [e_arr _ _ (by decide) (by decide) rfl]
  rcases (by omega : i = 0 ∨ i = 1 ∨ i = 2 ∨ i = 3 ∨ i = 4 ∨ i = 5 ∨ i = 6 ∨ i = 7 ∨ i = 8 ∨ i = 9) with rfl | rfl | rfl | rfl | rfl | rfl | rfl | rfl | rfl | rfl <;> rfl
set_option maxRecDepth 20000 in
theorem cst_8 (g : Gl) (h0 h1 qL : Nat) (a : Nat → Nat → Nat) (b : Nat → Nat) (i : Nat) (hi : i < ctn 8) : (LL g h0 h1 qL a b)[iot (8, i)]? = some (adG h0 h1 qL a b 8 i, en (gW g (adG h0 h1 qL a b)) 8 i (St0 8 i)) := by
  have hi1 : i < 1 := hi
  obtain rfl : i = 0 := by omega
  rw [e_arr _ _ (by decide) (by decide) rfl]
  rfl
set_option maxRecDepth 20000 in
theorem cst_9 (g : Gl) (h0 h1 qL : Nat) (a : Nat → Nat → Nat) (b : Nat → Nat) (i : Nat) (hi : i < ctn 9) : (LL g h0 h1 qL a b)[iot (9, i)]? = some (adG h0 h1 qL a b 9 i, en (gW g (adG h0 h1 qL a b)) 9 i (St0 9 i)) := by
  have hi1 : i < 1 := hi
  obtain rfl : i = 0 := by omega
  rw [e_arr _ _ (by decide) (by decide) rfl]
  rfl
set_option maxRecDepth 20000 in
theorem cst_10 (g : Gl) (h0 h1 qL : Nat) (a : Nat → Nat → Nat) (b : Nat → Nat) (i : Nat) (hi : i < ctn 10) : (LL g h0 h1 qL a b)[iot (10, i)]? = some (adG h0 h1 qL a b 10 i, en (gW g (adG h0 h1 qL a b)) 10 i (St0 10 i)) := by
  have hi1 : i < 1 := hi
  obtain rfl : i = 0 := by omega
  rw [e_arr _ _ (by decide) (by decide) rfl]
  rfl
set_option maxRecDepth 20000 in
theorem cst_11 (g : Gl) (h0 h1 qL : Nat) (a : Nat → Nat → Nat) (b : Nat → Nat) (i : Nat) (hi : i < ctn 11) : (LL g h0 h1 qL a b)[iot (11, i)]? = some (adG h0 h1 qL a b 11 i, en (gW g (adG h0 h1 qL a b)) 11 i (St0 11 i)) := by
  have hi1 : i < 1 := hi
  obtain rfl : i = 0 := by omega
  rw [e_mod]
  rfl
set_option maxRecDepth 20000 in
theorem cst_12 (g : Gl) (h0 h1 qL : Nat) (a : Nat → Nat → Nat) (b : Nat → Nat) (i : Nat) (hi : i < ctn 12) : (LL g h0 h1 qL a b)[iot (12, i)]? = some (adG h0 h1 qL a b 12 i, en (gW g (adG h0 h1 qL a b)) 12 i (St0 12 i)) := by
  have hi1 : i < 1 := hi
  obtain rfl : i = 0 := by omega
  rw [e_arr _ _ (by decide) (by decide) rfl]
  rfl
set_option maxRecDepth 20000 in
theorem cst_13 (g : Gl) (h0 h1 qL : Nat) (a : Nat → Nat → Nat) (b : Nat → Nat) (i : Nat) (hi : i < ctn 13) : (LL g h0 h1 qL a b)[iot (13, i)]? = some (adG h0 h1 qL a b 13 i, en (gW g (adG h0 h1 qL a b)) 13 i (St0 13 i)) := by
  have hi1 : i < 1 := hi
  obtain rfl : i = 0 := by omega
  rw [e_arr _ _ (by decide) (by decide) rfl]
  rfl
set_option maxRecDepth 20000 in
theorem cst_14 (g : Gl) (h0 h1 qL : Nat) (a : Nat → Nat → Nat) (b : Nat → Nat) (i : Nat) (hi : i < ctn 14) : (LL g h0 h1 qL a b)[iot (14, i)]? = some (adG h0 h1 qL a b 14 i, en (gW g (adG h0 h1 qL a b)) 14 i (St0 14 i)) := by
  have hi1 : i < 1 := hi
  obtain rfl : i = 0 := by omega
  rw [e_arr _ _ (by decide) (by decide) rfl]
  rfl
set_option maxRecDepth 20000 in
theorem cst_15 (g : Gl) (h0 h1 qL : Nat) (a : Nat → Nat → Nat) (b : Nat → Nat) (i : Nat) (hi : i < ctn 15) : (LL g h0 h1 qL a b)[iot (15, i)]? = some (adG h0 h1 qL a b 15 i, en (gW g (adG h0 h1 qL a b)) 15 i (St0 15 i)) := by
  have hi1 : i < 1 := hi
  obtain rfl : i = 0 := by omega
  rw [e_arr _ _ (by decide) (by decide) rfl]
  rfl
set_option maxRecDepth 20000 in
theorem cst_16 (g : Gl) (h0 h1 qL : Nat) (a : Nat → Nat → Nat) (b : Nat → Nat) (i : Nat) (hi : i < ctn 16) : (LL g h0 h1 qL a b)[iot (16, i)]? = some (adG h0 h1 qL a b 16 i, en (gW g (adG h0 h1 qL a b)) 16 i (St0 16 i)) := by
  have hi1 : i < 1 := hi
  obtain rfl : i = 0 := by omega
  rw [e_arr _ _ (by decide) (by decide) rfl]
  rfl
set_option maxRecDepth 20000 in
theorem cst_17 (g : Gl) (h0 h1 qL : Nat) (a : Nat → Nat → Nat) (b : Nat → Nat) (i : Nat) (hi : i < ctn 17) : (LL g h0 h1 qL a b)[iot (17, i)]? = some (adG h0 h1 qL a b 17 i, en (gW g (adG h0 h1 qL a b)) 17 i (St0 17 i)) := by
  have hi1 : i < 1 := hi
  obtain rfl : i = 0 := by omega
  rw [e_arr _ _ (by decide) (by decide) rfl]
  rfl
set_option maxRecDepth 20000 in
theorem cst_18 (g : Gl) (h0 h1 qL : Nat) (a : Nat → Nat → Nat) (b : Nat → Nat) (i : Nat) (hi : i < ctn 18) : (LL g h0 h1 qL a b)[iot (18, i)]? = some (adG h0 h1 qL a b 18 i, en (gW g (adG h0 h1 qL a b)) 18 i (St0 18 i)) := by
  have hi1 : i < 1 := hi
  obtain rfl : i = 0 := by omega
  rw [e_arr _ _ (by decide) (by decide) rfl]
  rfl
set_option maxRecDepth 20000 in
theorem cst_19 (g : Gl) (h0 h1 qL : Nat) (a : Nat → Nat → Nat) (b : Nat → Nat) (i : Nat) (hi : i < ctn 19) : (LL g h0 h1 qL a b)[iot (19, i)]? = some (adG h0 h1 qL a b 19 i, en (gW g (adG h0 h1 qL a b)) 19 i (St0 19 i)) := by
  have hi1 : i < 1 := hi
  obtain rfl : i = 0 := by omega
  rw [e_arr _ _ (by decide) (by decide) rfl]
  rfl
set_option maxRecDepth 20000 in
theorem cst_20 (g : Gl) (h0 h1 qL : Nat) (a : Nat → Nat → Nat) (b : Nat → Nat) (i : Nat) (hi : i < ctn 20) : (LL g h0 h1 qL a b)[iot (20, i)]? = some (adG h0 h1 qL a b 20 i, en (gW g (adG h0 h1 qL a b)) 20 i (St0 20 i)) := by
  have hi1 : i < 1 := hi
  obtain rfl : i = 0 := by omega
  rw [e_arr _ _ (by decide) (by decide) rfl]
  rfl
set_option maxRecDepth 20000 in
theorem cst_21 (g : Gl) (h0 h1 qL : Nat) (a : Nat → Nat → Nat) (b : Nat → Nat) (i : Nat) (hi : i < ctn 21) : (LL g h0 h1 qL a b)[iot (21, i)]? = some (adG h0 h1 qL a b 21 i, en (gW g (adG h0 h1 qL a b)) 21 i (St0 21 i)) := by
  have hi1 : i < 1 := hi
  obtain rfl : i = 0 := by omega
  rw [e_arr _ _ (by decide) (by decide) rfl]
  rfl
set_option maxRecDepth 20000 in
theorem cst_22 (g : Gl) (h0 h1 qL : Nat) (a : Nat → Nat → Nat) (b : Nat → Nat) (i : Nat) (hi : i < ctn 22) : (LL g h0 h1 qL a b)[iot (22, i)]? = some (adG h0 h1 qL a b 22 i, en (gW g (adG h0 h1 qL a b)) 22 i (St0 22 i)) := by
  have hi1 : i < 1 := hi
  obtain rfl : i = 0 := by omega
  rw [e_arr _ _ (by decide) (by decide) rfl]
  rfl
set_option maxRecDepth 20000 in
theorem cst_23 (g : Gl) (h0 h1 qL : Nat) (a : Nat → Nat → Nat) (b : Nat → Nat) (i : Nat) (hi : i < ctn 23) : (LL g h0 h1 qL a b)[iot (23, i)]? = some (adG h0 h1 qL a b 23 i, en (gW g (adG h0 h1 qL a b)) 23 i (St0 23 i)) := by
  have hi1 : i < 1 := hi
  obtain rfl : i = 0 := by omega
  rw [e_arr _ _ (by decide) (by decide) rfl]
  rfl
set_option maxRecDepth 20000 in
theorem cst_24 (g : Gl) (h0 h1 qL : Nat) (a : Nat → Nat → Nat) (b : Nat → Nat) (i : Nat) (hi : i < ctn 24) : (LL g h0 h1 qL a b)[iot (24, i)]? = some (adG h0 h1 qL a b 24 i, en (gW g (adG h0 h1 qL a b)) 24 i (St0 24 i)) := by
  have hi1 : i < 1 := hi
  obtain rfl : i = 0 := by omega
  rw [e_arr _ _ (by decide) (by decide) rfl]
  rfl
set_option maxRecDepth 20000 in
theorem cst_25 (g : Gl) (h0 h1 qL : Nat) (a : Nat → Nat → Nat) (b : Nat → Nat) (i : Nat) (hi : i < ctn 25) : (LL g h0 h1 qL a b)[iot (25, i)]? = some (adG h0 h1 qL a b 25 i, en (gW g (adG h0 h1 qL a b)) 25 i (St0 25 i)) := by
  have hi1 : i < 1 := hi
  obtain rfl : i = 0 := by omega
  rw [e_arr _ _ (by decide) (by decide) rfl]
  rfl
set_option maxRecDepth 20000 in
theorem cst_26 (g : Gl) (h0 h1 qL : Nat) (a : Nat → Nat → Nat) (b : Nat → Nat) (i : Nat) (hi : i < ctn 26) : (LL g h0 h1 qL a b)[iot (26, i)]? = some (adG h0 h1 qL a b 26 i, en (gW g (adG h0 h1 qL a b)) 26 i (St0 26 i)) := by
  have hi1 : i < 1 := hi
  obtain rfl : i = 0 := by omega
  rw [e_arr _ _ (by decide) (by decide) rfl]
  rfl
set_option maxRecDepth 20000 in
theorem cst_27 (g : Gl) (h0 h1 qL : Nat) (a : Nat → Nat → Nat) (b : Nat → Nat) (i : Nat) (hi : i < ctn 27) : (LL g h0 h1 qL a b)[iot (27, i)]? = some (adG h0 h1 qL a b 27 i, en (gW g (adG h0 h1 qL a b)) 27 i (St0 27 i)) := by
  have hi1 : i < 1 := hi
  obtain rfl : i = 0 := by omega
  rw [e_arr _ _ (by decide) (by decide) rfl]
  rfl
set_option maxRecDepth 20000 in
theorem cst_28 (g : Gl) (h0 h1 qL : Nat) (a : Nat → Nat → Nat) (b : Nat → Nat) (i : Nat) (hi : i < ctn 28) : (LL g h0 h1 qL a b)[iot (28, i)]? = some (adG h0 h1 qL a b 28 i, en (gW g (adG h0 h1 qL a b)) 28 i (St0 28 i)) := by
  have hi1 : i < 1 := hi
  obtain rfl : i = 0 := by omega
  rw [e_arr _ _ (by decide) (by decide) rfl]
  rfl
set_option maxRecDepth 20000 in
theorem cst_29 (g : Gl) (h0 h1 qL : Nat) (a : Nat → Nat → Nat) (b : Nat → Nat) (i : Nat) (hi : i < ctn 29) : (LL g h0 h1 qL a b)[iot (29, i)]? = some (adG h0 h1 qL a b 29 i, en (gW g (adG h0 h1 qL a b)) 29 i (St0 29 i)) := by
  have hi1 : i < 1 := hi
  obtain rfl : i = 0 := by omega
  rw [e_lng]
  rfl
theorem cells_at (g : Gl) (h0 h1 qL : Nat) (a : Nat → Nat → Nat) (b : Nat → Nat) (t i : Nat) (ht : t < 30) (hi : i < ctn t) : (LL g h0 h1 qL a b)[iot (t, i)]? = some (adG h0 h1 qL a b t i, en (gW g (adG h0 h1 qL a b)) t i (St0 t i)) := by
  rcases (by omega : t = 0 ∨ t = 1 ∨ t = 2 ∨ t = 3 ∨ t = 4 ∨ t = 5 ∨ t = 6 ∨ t = 7 ∨ t = 8 ∨ t = 9 ∨ t = 10 ∨ t = 11 ∨ t = 12 ∨ t = 13 ∨ t = 14 ∨ t = 15 ∨ t = 16 ∨ t = 17 ∨ t = 18 ∨ t = 19 ∨ t = 20 ∨ t = 21 ∨ t = 22 ∨ t = 23 ∨ t = 24 ∨ t = 25 ∨ t = 26 ∨ t = 27 ∨ t = 28 ∨ t = 29) with rfl | rfl | rfl | rfl | rfl | rfl | rfl | rfl | rfl | rfl | rfl | rfl | rfl | rfl | rfl | rfl | rfl | rfl | rfl | rfl | rfl | rfl | rfl | rfl | rfl | rfl | rfl | rfl | rfl | rfl
  · exact cst_0 g h0 h1 qL a b i hi
  · exact cst_1 g h0 h1 qL a b i hi
  · exact cst_2 g h0 h1 qL a b i hi
  · exact cst_3 g h0 h1 qL a b i hi
  · exact cst_4 g h0 h1 qL a b i hi
  · exact cst_5 g h0 h1 qL a b i hi
  · exact cst_6 g h0 h1 qL a b i hi
  · exact cst_7 g h0 h1 qL a b i hi
  · exact cst_8 g h0 h1 qL a b i hi
  · exact cst_9 g h0 h1 qL a b i hi
  · exact cst_10 g h0 h1 qL a b i hi
  · exact cst_11 g h0 h1 qL a b i hi
  · exact cst_12 g h0 h1 qL a b i hi
  · exact cst_13 g h0 h1 qL a b i hi
  · exact cst_14 g h0 h1 qL a b i hi
  · exact cst_15 g h0 h1 qL a b i hi
  · exact cst_16 g h0 h1 qL a b i hi
  · exact cst_17 g h0 h1 qL a b i hi
  · exact cst_18 g h0 h1 qL a b i hi
  · exact cst_19 g h0 h1 qL a b i hi
  · exact cst_20 g h0 h1 qL a b i hi
  · exact cst_21 g h0 h1 qL a b i hi
  · exact cst_22 g h0 h1 qL a b i hi
  · exact cst_23 g h0 h1 qL a b i hi
  · exact cst_24 g h0 h1 qL a b i hi
  · exact cst_25 g h0 h1 qL a b i hi
  · exact cst_26 g h0 h1 qL a b i hi
  · exact cst_27 g h0 h1 qL a b i hi
  · exact cst_28 g h0 h1 qL a b i hi
  · exact cst_29 g h0 h1 qL a b i hi
theorem w_start {g : Gl} {h0 h1 qL : Nat} {a : Nat → Nat → Nat} {b : Nat → Nat} {H : Heap} (hP : va_P g.2.1 vwCl (LL g h0 h1 qL a b) H) : Wd (gW g (adG h0 h1 qL a b)) St0 H := fun k q hk => by
  obtain ⟨⟨t, i⟩, hp, rfl⟩ := List.mem_map.mp (List.mem_of_getElem? hk)
  obtain ⟨ht, hi⟩ := prs_mem hp
  exact hP _ _ (cells_at g h0 h1 qL a b t i ht hi)
theorem apt_start {g : Gl} {h0 h1 qL : Nat} {a : Nat → Nat → Nat} {b : Nat → Nat} {A : Nat → Prop} (hD : va_D A (LL g h0 h1 qL a b)) : Apt (gW g (adG h0 h1 qL a b)) ∧ ∀ q, q ∈ prs → A ((gW g (adG h0 h1 qL a b)).2.2.1 q.1 q.2) := by
  refine ⟨fun p hp q hq he => ?_, fun q hq => ?_⟩
  · obtain ⟨t, i⟩ := p
    obtain ⟨t', i'⟩ := q
    obtain ⟨ht, hi⟩ := prs_mem hp
    obtain ⟨ht', hi'⟩ := prs_mem hq
    exact iot_inj _ hp _ hq (hD.1 _ _ _ _ (cells_at g h0 h1 qL a b t i ht hi) (cells_at g h0 h1 qL a b t' i' ht' hi') he)
  · obtain ⟨t, i⟩ := q
    obtain ⟨ht, hi⟩ := prs_mem hq
    exact hD.2 _ _ (cells_at g h0 h1 qL a b t i ht hi)
