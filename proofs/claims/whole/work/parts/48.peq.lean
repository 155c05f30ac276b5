/-! ===== the two partings give alike ===== -/
section PEQ
variable {w b W B : Nat → Int}
def ag (n : Nat) (x y : (Nat → Int) × Int) : Prop := x.2 = y.2 ∧ ∀ k, k < n → x.1 k = y.1 k
def rest (w b : Nat → Int) (n : Nat) (x : (Nat → Int) × Int) : Prop := x.2 ≤ 0 ∨ tkN w b x.1 n = 0
theorem gvN_pad {c : Int} {p : Nat → Int} {l : Int} {n : Nat} : ∀ m, n ≤ m → (∀ k, n ≤ k → k < m → ¬ 0 < W k) → gvN W B c p l m = gvN W B c p l n
  | 0, h, _ => by rw [show n = 0 by omega]
  | m + 1, h, hz => by
    by_cases e : n = m + 1
    · rw [e]
    · have ih := gvN_pad (c := c) (p := p) (l := l) (n := n) m (by omega) (fun k h1 h2 => hz k h1 (by omega))
      rw [gvN_succ, if_neg (fun z => hz m (by omega) (by omega) z.1.1), ih]
theorem gvN_ag {c : Int} {p q : Nat → Int} {l : Int} {n : Nat} (h : ∀ k, k < n → W k = w k ∧ B k = b k ∧ p k = q k) : ∀ m, m ≤ n → ag n (gvN W B c p l m) (gvN w b c q l m)
  | 0, _ => ⟨rfl, fun k hk => (h k hk).2.2⟩
  | m + 1, hm => by
    have ih := gvN_ag (c := c) (l := l) h m (by omega)
    have h9 := h m (by omega)
    have e1 := ih.2 m (by omega)
    rw [gvN_succ, gvN_succ]
    by_cases q9 : ct w b (gvN w b c q l m).1 m ∧ c ≤ (gvN w b c q l m).2
    · have q8 : ct W B (gvN W B c p l m).1 m ∧ c ≤ (gvN W B c p l m).2 := by
        unfold ct
        rw [h9.1, h9.2.1, e1, ih.1]
        exact q9
      rw [if_pos q9, if_pos q8]
      refine ⟨by dsimp only; rw [ih.1], fun k hk => ?_⟩
      dsimp only
      unfold updI
      rw [e1, ih.2 k hk]
    · have q8 : ¬ (ct W B (gvN W B c p l m).1 m ∧ c ≤ (gvN W B c p l m).2) := by
        unfold ct
        rw [h9.1, h9.2.1, e1, ih.1]
        exact q9
      rw [if_neg q9, if_neg q8]
      exact ih
theorem ps_ag {n : Nat} (hn : n ≤ 10) (h : ∀ k, k < n → W k = w k ∧ B k = b k) (hz : ∀ k, n ≤ k → k < 10 → ¬ 0 < W k) {x y : (Nat → Int) × Int} (hxy : ag n x y) : ag n (psN W B 10 x) (psN w b n y) := by
  unfold psN
  rw [gvN_pad 10 hn hz, hxy.1]
  exact gvN_ag (fun k hk => ⟨(h k hk).1, (h k hk).2, hxy.2 k hk⟩) n (Nat.le_refl _)
theorem it_ag {n : Nat} (hn : n ≤ 10) (h : ∀ k, k < n → W k = w k ∧ B k = b k) (hz : ∀ k, n ≤ k → k < 10 → ¬ 0 < W k) {x y : (Nat → Int) × Int} (hxy : ag n x y) : ∀ f, ag n (itN W B 10 f x) (itN w b n f y)
  | 0 => hxy
  | f + 1 => ps_ag hn h hz (it_ag hn h hz hxy f)
theorem tk_pad {p : Nat → Int} {n : Nat} : ∀ m, n ≤ m → (∀ k, n ≤ k → k < m → ¬ 0 < W k) → tkN W B p m = tkN W B p n
  | 0, h, _ => by rw [show n = 0 by omega]
  | m + 1, h, hz => by
    by_cases e : n = m + 1
    · rw [e]
    · rw [tkN_s, if_neg (fun z => hz m (by omega) (by omega) z.1), tk_pad m (by omega) (fun k h1 h2 => hz k h1 (by omega))]
theorem tk_ag {p q : Nat → Int} : ∀ m, (∀ k, k < m → W k = w k ∧ B k = b k ∧ p k = q k) → tkN W B p m = tkN w b q m
  | 0, _ => rfl
  | m + 1, h => by
    have h9 := h m (by omega)
    rw [tkN_s, tkN_s, tk_ag m (fun k hk => h k (by omega))]
    unfold ct
    rw [h9.1, h9.2.1, h9.2.2]
theorem rest_fix {n : Nat} {x : (Nat → Int) × Int} (h : rest w b n x) : psN w b n x = x := by
  by_cases q : x.2 ≤ 0
  · exact gv1_nl q n
  · have hT : tkN w b x.1 n = 0 := by
      rcases h with h | h
      · exact absurd h q
      · exact h
    unfold psN
    rw [gvN_all (by omega) n (by rw [hT]; omega), hT]
    have e : flF w b x.1 1 n = x.1 := by
      funext k
      unfold flF
      by_cases hk : k < n
      · rw [if_neg (fun z => tkN_z hT hk z.2)]
      · rw [if_neg (fun z => hk z.1)]
    rw [e]
    simp
theorem mu_rest {x : (Nat → Int) × Int} (h : muN w b x = 0) : rest w b 10 x := by
  have hr := tkN_rng w b x.1 10
  unfold muN at h
  split at h
  · assumption
  · split at h <;> omega
theorem whM_it {n : Nat} : ∀ (f : Nat) (x : (Nat → Int) × Int), whM w b n f x = itN w b n f x
  | 0, _ => rfl
  | f + 1, x => by
    show (if 0 < x.2 then whM w b n f (gvN w b 1 x.1 x.2 n) else x) = _
    by_cases q : 0 < x.2
    · rw [if_pos q, whM_it f]
      have e := itN_add (w := w) (b := b) (n := n) (x := x) 1 f
      rw [show 1 + f = f + 1 by omega] at e
      exact e
    · rw [if_neg q]
      exact (itN_fix (rest_fix (Or.inl (by omega))) (f + 1)).symm
theorem it_nn {n : Nat} {x : (Nat → Int) × Int} (h : 0 ≤ x.2) : ∀ f, 0 ≤ (itN w b n f x).2
  | 0 => h
  | f + 1 => by
    show 0 ≤ (gvN w b 1 (itN w b n f x).1 (itN w b n f x).2 n).2
    rw [gv1_left (it_nn h f)]
    omega
theorem it_rest {n : Nat} {x : (Nat → Int) × Int} (h : 0 ≤ x.2) : ∀ f : Nat, rest w b n (itN w b n f x) ∨ (itN w b n f x).2 ≤ x.2 - f
  | 0 => Or.inr (by show x.2 ≤ x.2 - 0; omega)
  | f + 1 => by
    have hn := it_nn (w := w) (b := b) (n := n) h f
    have hl := gv1_left (w := w) (b := b) (p := (itN w b n f x).1) hn n
    have ht := tkN_rng w b (itN w b n f x).1 n
    by_cases q : rest w b n (itN w b n f x)
    · left
      show rest w b n (psN w b n (itN w b n f x))
      rw [rest_fix q]
      exact q
    · rcases it_rest h f with h9 | h9
      · exact absurd h9 q
      · unfold rest at q
        have hs : (itN w b n (f + 1) x).2 = max 0 ((itN w b n f x).2 - tkN w b (itN w b n f x).1 n) := hl
        by_cases q2 : (itN w b n (f + 1) x).2 ≤ 0
        · exact Or.inl (Or.inl q2)
        · right
          omega
theorem it_end {n : Nat} {x : (Nat → Int) × Int} (h : 0 ≤ x.2) : rest w b n (itN w b n x.2.toNat x) := by
  rcases it_rest (w := w) (b := b) (n := n) h x.2.toNat with h9 | h9
  · exact h9
  · exact Or.inl (by omega)
theorem gv_le {n : Nat} {p : Nat → Int} {l : Int} (hp : ∀ k, k < n → p k ≤ b k) : ∀ m, m ≤ n → ∀ k, k < n → (gvN w b 1 p l m).1 k ≤ b k
  | 0, _, k, hk => hp k hk
  | m + 1, hm, k, hk => by
    have ih := gv_le (l := l) hp m (by omega)
    rw [gvN_succ]
    split
    · rename_i hc
      dsimp only
      unfold updI
      split
      · rename_i e
        subst e
        have := hc.1.2
        omega
      · exact ih k hk
    · exact ih k hk
theorem gv_zero {p : Nat → Int} {l : Int} {k : Nat} (hk : ¬ 0 < w k) : ∀ m, (gvN w b 1 p l m).1 k = p k
  | 0 => rfl
  | m + 1 => by
    have ih := gv_zero (p := p) (l := l) hk m
    rw [gvN_succ]
    split
    · rename_i hc
      dsimp only
      unfold updI
      split
      · rename_i e
        subst e
        exact absurd hc.1.1 hk
      · exact ih
    · exact ih
theorem it_le {n : Nat} {x : (Nat → Int) × Int} (hp : ∀ k, k < n → x.1 k ≤ b k) : ∀ f k, k < n → (itN w b n f x).1 k ≤ b k
  | 0, k, hk => hp k hk
  | f + 1, k, hk => gv_le (it_le hp f) n (Nat.le_refl _) k hk
theorem it_zero {n : Nat} {x : (Nat → Int) × Int} {k : Nat} (hk : ¬ 0 < w k) : ∀ f, (itN w b n f x).1 k = x.1 k
  | 0 => rfl
  | f + 1 => (gv_zero hk n).trans (it_zero hk f)
theorem it_slk {n : Nat} {x : (Nat → Int) × Int} : ∀ f, slk w b (itN w b n f x).1 n - (itN w b n f x).2 = slk w b x.1 n - x.2
  | 0 => rfl
  | f + 1 => (gv1_slk n (Nat.le_refl _)).trans (it_slk f)
theorem slk_nn {p : Nat → Int} {n : Nat} (hp : ∀ k, k < n → p k ≤ b k) : 0 ≤ slk w b p n := by
  have h : ∀ m, m ≤ n → 0 ≤ smN (fun k => if 0 < w k then b k - p k else 0) m := by
    intro m
    induction m with
    | zero => intro _; exact Int.le_refl _
    | succ m ih =>
      intro hm
      have h1 := ih (by omega)
      have h2 := hp m (by omega)
      show 0 ≤ smN _ m + (if 0 < w m then b m - p m else 0)
      split <;> omega
  exact h n (Nat.le_refl _)
theorem slk_full {p : Nat → Int} {n : Nat} (hp : ∀ k, k < n → p k ≤ b k) (h : slk w b p n ≤ 0) {k : Nat} (hk : k < n) (hw : 0 < w k) : p k = b k := by
  have h1 := smN_mem (f := fun k => if 0 < w k then b k - p k else 0) (m := n) (k := k) (fun j hj => by
    have := hp j hj
    show 0 ≤ if 0 < w j then b j - p j else 0
    split <;> omega) hk
  have h2 : (if 0 < w k then b k - p k else 0) ≤ slk w b p n := h1
  rw [if_pos hw] at h2
  have := hp k hk
  omega
/-- a state at rest that began with p0: what is left -/
theorem rest_left {n : Nat} {x : (Nat → Int) × Int} (hp : ∀ k, k < n → x.1 k ≤ b k) (hl : 0 ≤ x.2) {f : Nat} (hr : rest w b n (itN w b n f x)) : (itN w b n f x).2 = max 0 (x.2 - slk w b x.1 n) ∧ (x.2 - slk w b x.1 n ≥ 0 → ∀ k, k < n → 0 < w k → (itN w b n f x).1 k = b k) := by
  have h1 := it_slk (w := w) (b := b) (n := n) (x := x) f
  have h2 := it_le (w := w) (b := b) hp f
  have h3 := slk_nn (w := w) h2
  have h4 := it_nn (w := w) (b := b) (n := n) hl f
  rcases hr with hr | hr
  · refine ⟨by omega, fun q k hk hw => slk_full h2 (by omega) hk hw⟩
  · have h5 := slk_0 (w := w) (b := b) (p := (itN w b n f x).1) (n := n) (fun k hk => tkN_z hr hk)
    exact ⟨by omega, fun q k hk hw => slk_full h2 h5 hk hw⟩
theorem slk_p0 {n : Nat} {p : Nat → Int} (hz : ∀ k, k < n → ¬ 0 < w k → p k = 0) : ∀ m, m ≤ n → slk w b p m = allN w b m - smN p m
  | 0, _ => rfl
  | m + 1, hm => by
    have ih := slk_p0 hz m (by omega)
    have h9 := hz m (by omega)
    show slk w b p m + (if 0 < w m then b m - p m else 0) = allN w b m + (if 0 < w m then b m else 0) - (smN p m + p m)
    rw [ih]
    by_cases q : 0 < w m
    · rw [if_pos q, if_pos q]
      omega
    · rw [if_neg q, if_neg q, h9 q]
      omega
end PEQ
