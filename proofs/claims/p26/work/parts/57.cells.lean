/-! ===== all cells, where the constructors and the law laid them ===== -/
def adG (h0 qh qr : Nat) (a : Nat → Nat → Nat) : Nat → Nat → Nat := fun t i => match t with
  | 0 => h0
  | 1 => a 1 i
  | 2 => a 2 i
  | 3 => a 3 i
  | 4 => a 4 i
  | 5 => a 5 i
  | 6 => a 6 i
  | 7 => a 7 i
  | 8 => a 8 i
  | 9 => a 9 i
  | 10 => a 10 i
  | 11 => qh
  | _ => qr
def gW (g : Gl) (ad : Nat → Nat → Nat) : Gl := (g.1, g.2.1, ad, g.2.2.2)
def LL (g : Gl) (h0 qh qr : Nat) (a : Nat → Nat → Nat) : va_W := (W3 g h0 a ++ [(qh, .inl (g.2.2.2 0, 50, .inl fun _ => 0))]) ++ [(qr, .inl (g.2.2.2 0, 10, .inl fun _ => 0))]
/-- where a cell stands in that list -/
def iot (p : Nat × Nat) : Nat := match p.1 with
  | 0 => 0
  | 1 => 1
  | 2 => 2
  | 6 => 3
  | 7 => 4 + p.2
  | 3 => 14
  | 8 => 15
  | 9 => 16
  | 10 => 17
  | 4 => 18 + 2 * p.2
  | 5 => 19 + 2 * p.2
  | t => 27 + t
theorem iot_inj : ∀ p ∈ prs, ∀ q ∈ prs, iot p = iot q → p = q := by decide +kernel
theorem z_t {t : Nat} (h0 : t ≠ 0) (i : Nat) : St0 t i = fun _ => 0 := funext fun k => St0_t h0 i k
theorem e_arr (g : Gl) {t : Nat} (i : Nat) (h0 : t ≠ 0) (hk : kd t = 5) : en g t i (St0 t i) = .inl (g.2.2.2 0, nf t, .inl fun _ => 0) := by
  rw [en_int g i _ hk, z_t h0]
  rfl
theorem e_mem (g : Gl) (i : Nat) : en g 4 i (St0 4 i) = o1 (g.2.2.1 5 i) := by
  rw [en_obj g i _ (by decide), z_t (by decide)]
  rfl
theorem e_auc (g : Gl) : en g 2 0 (St0 2 0) = o0 (g.2.2.1 6 0) := by
  rw [en_obj g 0 _ (by decide), z_t (by decide)]
  rfl
theorem e_par (g : Gl) : en g 3 0 (St0 3 0) = o2 (g.2.2.1 8 0, g.2.2.1 9 0, g.2.2.1 10 0) := by
  rw [en_obj g 0 _ (by decide), z_t (by decide)]
  rfl
theorem z_0 : St0 0 0 = fun k => if k = 7 then -1 else 0 := funext fun k => St0_0
theorem e_fund (g : Gl) : en g 0 0 (St0 0 0) = o3 (g.2.2.1 1 0) (g.2.2.1 2 0) (g.2.2.1 3 0) := by
  rw [en_obj g 0 _ (by decide), z_0]
  rfl
theorem prs_mem {t i : Nat} (h : (t, i) ∈ prs) : t < 13 ∧ i < ctn t := by
  obtain ⟨t', ht, h2⟩ := List.mem_flatMap.mp h
  obtain ⟨i', hi, h3⟩ := List.mem_map.mp h2
  cases h3
  exact ⟨List.mem_range.mp ht, List.mem_range.mp hi⟩
