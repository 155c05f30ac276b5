/-! ===== each cell stands at its place ===== -/
set_option maxRecDepth 20000 in
theorem cst_0 (g : Gl) (h0 qh qr : Nat) (a : Nat → Nat → Nat) (i : Nat) (hi : i < ctn 0) : (LL g h0 qh qr a)[iot (0, i)]? = some (adG h0 qh qr a 0 i, en (gW g (adG h0 qh qr a)) 0 i (St0 0 i)) := by
  have hi1 : i < 1 := hi
  obtain rfl : i = 0 := by omega
  rw [e_fund]
  rfl
set_option maxRecDepth 20000 in
theorem cst_1 (g : Gl) (h0 qh qr : Nat) (a : Nat → Nat → Nat) (i : Nat) (hi : i < ctn 1) : (LL g h0 qh qr a)[iot (1, i)]? = some (adG h0 qh qr a 1 i, en (gW g (adG h0 qh qr a)) 1 i (St0 1 i)) := by
  have hi1 : i < 1 := hi
  obtain rfl : i = 0 := by omega
  rw [en_ref _ _ _ rfl]
  rfl
set_option maxRecDepth 20000 in
theorem cst_2 (g : Gl) (h0 qh qr : Nat) (a : Nat → Nat → Nat) (i : Nat) (hi : i < ctn 2) : (LL g h0 qh qr a)[iot (2, i)]? = some (adG h0 qh qr a 2 i, en (gW g (adG h0 qh qr a)) 2 i (St0 2 i)) := by
  have hi1 : i < 1 := hi
  obtain rfl : i = 0 := by omega
  rw [e_auc]
  rfl
set_option maxRecDepth 20000 in
theorem cst_3 (g : Gl) (h0 qh qr : Nat) (a : Nat → Nat → Nat) (i : Nat) (hi : i < ctn 3) : (LL g h0 qh qr a)[iot (3, i)]? = some (adG h0 qh qr a 3 i, en (gW g (adG h0 qh qr a)) 3 i (St0 3 i)) := by
  have hi1 : i < 1 := hi
  obtain rfl : i = 0 := by omega
  rw [e_par]
  rfl
set_option maxRecDepth 20000 in
theorem cst_4 (g : Gl) (h0 qh qr : Nat) (a : Nat → Nat → Nat) (i : Nat) (hi : i < ctn 4) : (LL g h0 qh qr a)[iot (4, i)]? = some (adG h0 qh qr a 4 i, en (gW g (adG h0 qh qr a)) 4 i (St0 4 i)) := by
  have hi1 : i < 10 := hi
  rw [e_mem]
  rcases (by omega : i = 0 ∨ i = 1 ∨ i = 2 ∨ i = 3 ∨ i = 4 ∨ i = 5 ∨ i = 6 ∨ i = 7 ∨ i = 8 ∨ i = 9) with rfl | rfl | rfl | rfl | rfl | rfl | rfl | rfl | rfl | rfl <;> rfl
set_option maxRecDepth 20000 in
theorem cst_5 (g : Gl) (h0 qh qr : Nat) (a : Nat → Nat → Nat) (i : Nat) (hi : i < ctn 5) : (LL g h0 qh qr a)[iot (5, i)]? = some (adG h0 qh qr a 5 i, en (gW g (adG h0 qh qr a)) 5 i (St0 5 i)) := by
  have hi1 : i < 10 := hi
  rw [e_arr _ _ (by decide) rfl]
  rcases (by omega : i = 0 ∨ i = 1 ∨ i = 2 ∨ i = 3 ∨ i = 4 ∨ i = 5 ∨ i = 6 ∨ i = 7 ∨ i = 8 ∨ i = 9) with rfl | rfl | rfl | rfl | rfl | rfl | rfl | rfl | rfl | rfl <;> rfl
set_option maxRecDepth 20000 in
theorem cst_6 (g : Gl) (h0 qh qr : Nat) (a : Nat → Nat → Nat) (i : Nat) (hi : i < ctn 6) : (LL g h0 qh qr a)[iot (6, i)]? = some (adG h0 qh qr a 6 i, en (gW g (adG h0 qh qr a)) 6 i (St0 6 i)) := by
  have hi1 : i < 1 := hi
  obtain rfl : i = 0 := by omega
  rw [en_ref _ _ _ rfl]
  rfl
set_option maxRecDepth 20000 in
theorem cst_7 (g : Gl) (h0 qh qr : Nat) (a : Nat → Nat → Nat) (i : Nat) (hi : i < ctn 7) : (LL g h0 qh qr a)[iot (7, i)]? = some (adG h0 qh qr a 7 i, en (gW g (adG h0 qh qr a)) 7 i (St0 7 i)) := by
  have hi1 : i < 10 := hi
  rw [e_arr _ _ (by decide) rfl]
  rcases (by omega : i = 0 ∨ i = 1 ∨ i = 2 ∨ i = 3 ∨ i = 4 ∨ i = 5 ∨ i = 6 ∨ i = 7 ∨ i = 8 ∨ i = 9) with rfl | rfl | rfl | rfl | rfl | rfl | rfl | rfl | rfl | rfl <;> rfl
set_option maxRecDepth 20000 in
theorem cst_8 (g : Gl) (h0 qh qr : Nat) (a : Nat → Nat → Nat) (i : Nat) (hi : i < ctn 8) : (LL g h0 qh qr a)[iot (8, i)]? = some (adG h0 qh qr a 8 i, en (gW g (adG h0 qh qr a)) 8 i (St0 8 i)) := by
  have hi1 : i < 1 := hi
  obtain rfl : i = 0 := by omega
  rw [e_arr _ _ (by decide) rfl]
  rfl
set_option maxRecDepth 20000 in
theorem cst_9 (g : Gl) (h0 qh qr : Nat) (a : Nat → Nat → Nat) (i : Nat) (hi : i < ctn 9) : (LL g h0 qh qr a)[iot (9, i)]? = some (adG h0 qh qr a 9 i, en (gW g (adG h0 qh qr a)) 9 i (St0 9 i)) := by
  have hi1 : i < 1 := hi
  obtain rfl : i = 0 := by omega
  rw [e_arr _ _ (by decide) rfl]
  rfl
set_option maxRecDepth 20000 in
theorem cst_10 (g : Gl) (h0 qh qr : Nat) (a : Nat → Nat → Nat) (i : Nat) (hi : i < ctn 10) : (LL g h0 qh qr a)[iot (10, i)]? = some (adG h0 qh qr a 10 i, en (gW g (adG h0 qh qr a)) 10 i (St0 10 i)) := by
  have hi1 : i < 1 := hi
  obtain rfl : i = 0 := by omega
  rw [e_arr _ _ (by decide) rfl]
  rfl
set_option maxRecDepth 20000 in
theorem cst_11 (g : Gl) (h0 qh qr : Nat) (a : Nat → Nat → Nat) (i : Nat) (hi : i < ctn 11) : (LL g h0 qh qr a)[iot (11, i)]? = some (adG h0 qh qr a 11 i, en (gW g (adG h0 qh qr a)) 11 i (St0 11 i)) := by
  have hi1 : i < 1 := hi
  obtain rfl : i = 0 := by omega
  rw [e_arr _ _ (by decide) rfl]
  rfl
set_option maxRecDepth 20000 in
theorem cst_12 (g : Gl) (h0 qh qr : Nat) (a : Nat → Nat → Nat) (i : Nat) (hi : i < ctn 12) : (LL g h0 qh qr a)[iot (12, i)]? = some (adG h0 qh qr a 12 i, en (gW g (adG h0 qh qr a)) 12 i (St0 12 i)) := by
  have hi1 : i < 1 := hi
  obtain rfl : i = 0 := by omega
  rw [e_arr _ _ (by decide) rfl]
  rfl
theorem cells_at (g : Gl) (h0 qh qr : Nat) (a : Nat → Nat → Nat) (t i : Nat) (ht : t < 13) (hi : i < ctn t) : (LL g h0 qh qr a)[iot (t, i)]? = some (adG h0 qh qr a t i, en (gW g (adG h0 qh qr a)) t i (St0 t i)) := by
  rcases (by omega : t = 0 ∨ t = 1 ∨ t = 2 ∨ t = 3 ∨ t = 4 ∨ t = 5 ∨ t = 6 ∨ t = 7 ∨ t = 8 ∨ t = 9 ∨ t = 10 ∨ t = 11 ∨ t = 12) with rfl | rfl | rfl | rfl | rfl | rfl | rfl | rfl | rfl | rfl | rfl | rfl | rfl
  · exact cst_0 g h0 qh qr a i hi
  · exact cst_1 g h0 qh qr a i hi
  · exact cst_2 g h0 qh qr a i hi
  · exact cst_3 g h0 qh qr a i hi
  · exact cst_4 g h0 qh qr a i hi
  · exact cst_5 g h0 qh qr a i hi
  · exact cst_6 g h0 qh qr a i hi
  · exact cst_7 g h0 qh qr a i hi
  · exact cst_8 g h0 qh qr a i hi
  · exact cst_9 g h0 qh qr a i hi
  · exact cst_10 g h0 qh qr a i hi
  · exact cst_11 g h0 qh qr a i hi
  · exact cst_12 g h0 qh qr a i hi
theorem w_start {g : Gl} {h0 qh qr : Nat} {a : Nat → Nat → Nat} {H : Heap} (hP : va_P g.2.1 vwCl (LL g h0 qh qr a) H) : Wd (gW g (adG h0 qh qr a)) St0 H := fun k q hk => by
  obtain ⟨⟨t, i⟩, hp, rfl⟩ := List.mem_map.mp (List.mem_of_getElem? hk)
  obtain ⟨ht, hi⟩ := prs_mem hp
  exact hP _ _ (cells_at g h0 qh qr a t i ht hi)
theorem apt_start {g : Gl} {h0 qh qr : Nat} {a : Nat → Nat → Nat} {A : Nat → Prop} (hD : va_D A (LL g h0 qh qr a)) : Apt (gW g (adG h0 qh qr a)) ∧ ∀ q, q ∈ prs → A ((gW g (adG h0 qh qr a)).2.2.1 q.1 q.2) := by
  refine ⟨fun p hp q hq he => ?_, fun q hq => ?_⟩
  · obtain ⟨t, i⟩ := p
    obtain ⟨t', i'⟩ := q
    obtain ⟨ht, hi⟩ := prs_mem hp
    obtain ⟨ht', hi'⟩ := prs_mem hq
    exact iot_inj _ hp _ hq (hD.1 _ _ _ _ (cells_at g h0 qh qr a t i ht hi) (cells_at g h0 qh qr a t' i' ht' hi') he)
  · obtain ⟨t, i⟩ := q
    obtain ⟨ht, hi⟩ := prs_mem hq
    exact hD.2 _ _ (cells_at g h0 qh qr a t i ht hi)
