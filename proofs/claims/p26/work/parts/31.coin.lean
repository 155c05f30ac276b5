/-! ===== coins given by strokes, and coin by coin ===== -/
section COIN
variable {w b : Nat → Int}
def psN (w b : Nat → Int) (n : Nat) (x : (Nat → Int) × Int) : (Nat → Int) × Int := gvN w b 1 x.1 x.2 n
def itN (w b : Nat → Int) (n : Nat) : Nat → (Nat → Int) × Int → (Nat → Int) × Int
  | 0, x => x
  | f + 1, x => psN w b n (itN w b n f x)
def flF (w b p : Nat → Int) (c : Int) (m : Nat) : Nat → Int := fun k => if k < m ∧ ct w b p k then p k + c else p k
theorem tkN_s (w b p : Nat → Int) (m : Nat) : tkN w b p (m + 1) = if ct w b p m then tkN w b p m + 1 else tkN w b p m := rfl
theorem gvN_all {p : Nat → Int} {c left : Int} (hc : 0 ≤ c) : ∀ m, tkN w b p m * c ≤ left → gvN w b c p left m = (flF w b p c m, left - tkN w b p m * c)
  | 0, _ => by
    have e : flF w b p c 0 = p := by funext k; unfold flF; rw [if_neg (by omega)]
    show (p, left) = (flF w b p c 0, left - 0 * c)
    rw [e, Int.zero_mul, Int.sub_zero]
  | m + 1, h => by
    by_cases q : ct w b p m
    · rw [tkN_s, if_pos q, Int.add_mul, Int.one_mul] at h
      have ih := gvN_all (p := p) (c := c) (left := left) hc m (by omega)
      have e0 : flF w b p c m m = p m := by unfold flF; rw [if_neg (by omega)]
      rw [gvN_succ, ih]
      dsimp only
      rw [if_pos ⟨⟨q.1, by rw [e0]; exact q.2⟩, by omega⟩, tkN_s, if_pos q, Int.add_mul, Int.one_mul]
      congr 1
      · funext k
        unfold updI
        by_cases hk : k = m
        · subst hk
          rw [if_pos rfl, e0]
          unfold flF
          rw [if_pos ⟨by omega, q⟩]
        · rw [if_neg hk]
          unfold flF
          by_cases hk2 : k < m
          · by_cases hq : ct w b p k
            · rw [if_pos ⟨hk2, hq⟩, if_pos ⟨by omega, hq⟩]
            · rw [if_neg (fun z => hq z.2), if_neg (fun z => hq z.2)]
          · rw [if_neg (fun z => hk2 z.1), if_neg (fun z => hk2 (by omega))]
      · omega
    · rw [tkN_s, if_neg q] at h
      have ih := gvN_all (p := p) (c := c) (left := left) hc m h
      have e0 : flF w b p c m m = p m := by unfold flF; rw [if_neg (by omega)]
      rw [gvN_succ, ih]
      dsimp only
      rw [if_neg (fun z => q ⟨z.1.1, by rw [← e0]; exact z.1.2⟩), tkN_s, if_neg q]
      congr 1
      funext k
      unfold flF
      by_cases hq : ct w b p k
      · by_cases hk2 : k < m
        · rw [if_pos ⟨hk2, hq⟩, if_pos ⟨by omega, hq⟩]
        · rw [if_neg (fun z => hk2 z.1), if_neg (fun z => by have : k = m := by omega
                                                             subst this; exact q hq)]
      · rw [if_neg (fun z => hq z.2), if_neg (fun z => hq z.2)]
theorem gv1_nl {p : Nat → Int} {left : Int} (h : left ≤ 0) : ∀ m, gvN w b 1 p left m = (p, left)
  | 0 => rfl
  | m + 1 => by
    rw [gvN_succ, gv1_nl h m, if_neg (fun z => by have := z.2; dsimp only at this; omega)]
theorem gv1_left {p : Nat → Int} {left : Int} (hl : 0 ≤ left) : ∀ m, (gvN w b 1 p left m).2 = max 0 (left - tkN w b p m)
  | 0 => by show left = max 0 (left - 0); omega
  | m + 1 => by
    have ih := gv1_left (p := p) hl m
    have hh := gvN_hi w b 1 p left m m (Nat.le_refl _)
    have ht := tkN_rng w b p m
    rw [gvN_succ, tkN_s]
    by_cases q : ct w b p m
    · rw [if_pos q]
      by_cases q2 : 1 ≤ (gvN w b 1 p left m).2
      · rw [if_pos ⟨⟨q.1, by rw [hh]; exact q.2⟩, q2⟩]
        dsimp only
        omega
      · rw [if_neg (fun z => q2 z.2)]
        omega
    · rw [if_neg q, if_neg (fun z => q ⟨z.1.1, by rw [← hh]; exact z.1.2⟩)]
      exact ih
theorem rdN_cases {p : Nat → Int} {left : Int} : ∀ m, rdN w b p left m = left ∨ ∃ k, k < m ∧ ct w b p k ∧ rdN w b p left m = b k - p k
  | 0 => Or.inl rfl
  | m + 1 => by
    have ih := rdN_cases (p := p) (left := left) m
    show (if ct w b p m then min (rdN w b p left m) (b m - p m) else rdN w b p left m) = left ∨ ∃ k, k < m + 1 ∧ ct w b p k ∧ (if ct w b p m then min (rdN w b p left m) (b m - p m) else rdN w b p left m) = b k - p k
    by_cases q : ct w b p m
    · rw [if_pos q]
      by_cases q2 : rdN w b p left m ≤ b m - p m
      · rw [Int.min_eq_left q2]
        rcases ih with ih | ⟨k, hk, hc, e⟩
        · exact Or.inl ih
        · exact Or.inr ⟨k, by omega, hc, e⟩
      · rw [Int.min_eq_right (by omega)]
        exact Or.inr ⟨m, by omega, q, rfl⟩
    · rw [if_neg q]
      rcases ih with ih | ⟨k, hk, hc, e⟩
      · exact Or.inl ih
      · exact Or.inr ⟨k, by omega, hc, e⟩
theorem tkN_mono {p p' : Nat → Int} (h : ∀ k, p k ≤ p' k) : ∀ m, tkN w b p' m ≤ tkN w b p m
  | 0 => Int.le_refl _
  | m + 1 => by
    have ih := tkN_mono h m
    rw [tkN_s, tkN_s]
    by_cases q : ct w b p' m
    · have h9 := h m
      rw [if_pos q, if_pos (⟨q.1, by have := q.2; omega⟩ : ct w b p m)]
      omega
    · rw [if_neg q]
      split <;> omega
theorem tkN_strict {p p' : Nat → Int} (h : ∀ k, p k ≤ p' k) {j : Nat} (h1 : ct w b p j) (h2 : ¬ ct w b p' j) : ∀ m, j < m → tkN w b p' m + 1 ≤ tkN w b p m
  | m + 1, hj => by
    rw [tkN_s, tkN_s]
    by_cases e : j = m
    · subst e
      have ih := tkN_mono (w := w) (b := b) h j
      rw [if_neg h2, if_pos h1]
      omega
    · have ih := tkN_strict h h1 h2 m (by omega)
      by_cases q : ct w b p' m
      · have h9 := h m
        rw [if_pos q, if_pos (⟨q.1, by have := q.2; omega⟩ : ct w b p m)]
        omega
      · rw [if_neg q]
        split <;> omega
theorem fl_le {p : Nat → Int} {c : Int} (hc : 0 ≤ c) (m : Nat) : ∀ k, p k ≤ flF w b p c m k := fun k => by
  unfold flF
  split <;> omega
theorem fl_ct {p : Nat → Int} {c : Int} (hs : ∀ k, k < 10 → ct w b p k → c < b k - p k) {k : Nat} (hk : k < 10) : ct w b (flF w b p c 10) k ↔ ct w b p k := by
  by_cases q : ct w b p k
  · have e : flF w b p c 10 k = p k + c := by unfold flF; rw [if_pos ⟨hk, q⟩]
    have := hs k hk q
    exact ⟨fun _ => q, fun _ => ⟨q.1, by rw [e]; omega⟩⟩
  · have e : flF w b p c 10 k = p k := by unfold flF; rw [if_neg (fun z => q z.2)]
    unfold ct
    rw [e]
theorem fl_tk {p : Nat → Int} {c : Int} (hs : ∀ k, k < 10 → ct w b p k → c < b k - p k) : ∀ m, m ≤ 10 → tkN w b (flF w b p c 10) m = tkN w b p m
  | 0, _ => rfl
  | m + 1, hm => by
    have ih := fl_tk hs m (by omega)
    have h := fl_ct hs (k := m) (by omega)
    rw [tkN_s, tkN_s, ih]
    by_cases q : ct w b p m
    · rw [if_pos (h.mpr q), if_pos q]
    · rw [if_neg (fun z => q (h.mp z)), if_neg q]
theorem itN_fl {p : Nat → Int} {left : Int} : ∀ c : Nat, (∀ k, k < 10 → ct w b p k → (c : Int) ≤ b k - p k) → tkN w b p 10 * c ≤ left → itN w b 10 c (p, left) = (flF w b p c 10, left - tkN w b p 10 * c)
  | 0, _, _ => by
    have e : flF w b p ((0 : Nat) : Int) 10 = p := by funext k; unfold flF; split <;> simp
    show (p, left) = _
    rw [e]
    simp
  | c + 1, hs, hl => by
    have hT := tkN_rng w b p 10
    have e1 : tkN w b p 10 * ((c + 1 : Nat) : Int) = tkN w b p 10 * c + tkN w b p 10 := by rw [Int.natCast_add, Int.mul_add]; simp
    rw [e1] at hl
    have hs' : ∀ k, k < 10 → ct w b p k → (c : Int) < b k - p k := fun k hk q => by
      have := hs k hk q
      omega
    have ih := itN_fl (p := p) (left := left) c (fun k hk q => by have := hs' k hk q; omega) (by omega)
    show psN w b 10 (itN w b 10 c (p, left)) = _
    rw [ih]
    show gvN w b 1 (flF w b p c 10) (left - tkN w b p 10 * c) 10 = _
    have htk := fl_tk hs' 10 (Nat.le_refl _)
    rw [gvN_all (by omega) 10 (by rw [htk, Int.mul_one]; omega), htk, Int.mul_one, e1]
    congr 1
    · funext k
      by_cases hk : k < 10
      · have hc := fl_ct hs' hk
        by_cases q : ct w b p k
        · have e2 : flF w b p c 10 k = p k + c := by unfold flF; rw [if_pos ⟨hk, q⟩]
          have e3 : flF w b p ((c + 1 : Nat) : Int) 10 k = p k + ((c + 1 : Nat) : Int) := by unfold flF; rw [if_pos ⟨hk, q⟩]
          rw [e3]
          show (if k < 10 ∧ ct w b (flF w b p c 10) k then flF w b p c 10 k + 1 else flF w b p c 10 k) = _
          rw [if_pos ⟨hk, hc.mpr q⟩, e2]
          omega
        · have e3 : ∀ c, flF w b p c 10 k = p k := fun c => by unfold flF; rw [if_neg (fun z => q z.2)]
          show (if k < 10 ∧ ct w b (flF w b p c 10) k then flF w b p c 10 k + 1 else flF w b p c 10 k) = _
          rw [if_neg (fun z => q (hc.mp z.2)), e3, e3]
      · have e3 : ∀ (p : Nat → Int) (c : Int), flF w b p c 10 k = p k := fun p c => by unfold flF; rw [if_neg (fun z => hk z.1)]
        rw [e3, e3, e3]
    · omega
def muN (w b : Nat → Int) (x : (Nat → Int) × Int) : Int := if x.2 ≤ 0 ∨ tkN w b x.1 10 = 0 then 0 else if x.2 < tkN w b x.1 10 then tkN w b x.1 10 + 1 else tkN w b x.1 10 + 2
theorem mu_rng (x : (Nat → Int) × Int) : 0 ≤ muN w b x ∧ muN w b x ≤ 12 ∧ muN w b x ≤ tkN w b x.1 10 + 2 ∧ (x.2 < tkN w b x.1 10 → muN w b x ≤ tkN w b x.1 10 + 1) := by
  have h := tkN_rng w b x.1 10
  unfold muN
  split
  · omega
  · split <;> omega
theorem mu_fix {x : (Nat → Int) × Int} (h : muN w b x = 0) : psN w b 10 x = x := by
  have hr := tkN_rng w b x.1 10
  have hd : x.2 ≤ 0 ∨ tkN w b x.1 10 = 0 := by
    unfold muN at h
    split at h
    · assumption
    · split at h <;> omega
  by_cases q : x.2 ≤ 0
  · exact gv1_nl q 10
  · have hT : tkN w b x.1 10 = 0 := by omega
    unfold psN
    rw [gvN_all (by omega) 10 (by rw [hT]; omega), hT]
    have e : flF w b x.1 1 10 = x.1 := by
      funext k
      unfold flF
      by_cases hk : k < 10
      · rw [if_neg (fun z => tkN_z hT hk z.2)]
      · rw [if_neg (fun z => hk z.1)]
    rw [e]
    simp
theorem itN_fix {n : Nat} {x : (Nat → Int) × Int} (h : psN w b n x = x) : ∀ f, itN w b n f x = x
  | 0 => rfl
  | f + 1 => by
    show psN w b n (itN w b n f x) = x
    rw [itN_fix h f, h]
theorem itN_add {n : Nat} {x : (Nat → Int) × Int} (a : Nat) : ∀ c, itN w b n c (itN w b n a x) = itN w b n (a + c) x
  | 0 => rfl
  | c + 1 => by
    show psN w b n (itN w b n c (itN w b n a x)) = psN w b n (itN w b n (a + c) x)
    rw [itN_add a c]
theorem itN_uniq {n : Nat} {x : (Nat → Int) × Int} {a c : Nat} (ha : psN w b n (itN w b n a x) = itN w b n a x) (hc : psN w b n (itN w b n c x) = itN w b n c x) : itN w b n a x = itN w b n c x := by
  rcases Nat.le_total a c with h | h
  · have e := itN_add (w := w) (b := b) (n := n) (x := x) a (c - a)
    rw [itN_fix ha, show a + (c - a) = c by omega] at e
    exact e
  · have e := itN_add (w := w) (b := b) (n := n) (x := x) c (a - c)
    rw [itN_fix hc, show c + (a - c) = a by omega] at e
    exact e.symm
theorem stk_it {x : (Nat → Int) × Int} (hl : 0 < x.2) : (∃ N, stk1 w b x = itN w b 10 N x) ∧ (muN w b (stk1 w b x) = 0 ∨ muN w b (stk1 w b x) + 1 ≤ muN w b x) := by
  obtain ⟨p, left⟩ := x
  have hl : 0 < left := hl
  have hT := tkN_rng w b p 10
  have hmu : muN w b (p, left) = if left ≤ 0 ∨ tkN w b p 10 = 0 then 0 else if left < tkN w b p 10 then tkN w b p 10 + 1 else tkN w b p 10 + 2 := rfl
  by_cases h0 : tkN w b p 10 = 0
  · have e : stk1 w b (p, left) = (p, left) := by
      show gvN w b (rounds w b p left) p left 10 = _
      have er : rounds w b p left = 0 := by unfold rounds; rw [if_pos h0]
      rw [er, gvN_all (by omega) 10 (by rw [h0]; omega), h0]
      have e : flF w b p 0 10 = p := by funext k; unfold flF; split <;> simp
      rw [e]
      simp
    rw [e]
    exact ⟨⟨0, rfl⟩, Or.inl (by rw [hmu, if_pos (Or.inr h0)])⟩
  · rw [if_neg (by omega)] at hmu
    have er : rounds w b p left = max 1 (min (rdN w b p left 10) (left / tkN w b p 10)) := by unfold rounds; rw [if_neg h0]
    have hrd0 := rdN_nn w b p (left := left) (by omega) 10
    by_cases hlt : left < tkN w b p 10
    · have hq : left / tkN w b p 10 = 0 := Int.ediv_eq_zero_of_lt (by omega) hlt
      have e1 : rounds w b p left = 1 := by rw [er, hq]; omega
      have e : stk1 w b (p, left) = psN w b 10 (p, left) := by
        show gvN w b (rounds w b p left) p left 10 = _
        rw [e1]
        rfl
      refine ⟨⟨1, e⟩, Or.inl ?_⟩
      rw [e]
      have h2 := gv1_left (w := w) (b := b) (p := p) (left := left) (by omega) 10
      unfold muN
      rw [if_pos (Or.inl (by show (gvN w b 1 p left 10).2 ≤ 0; rw [h2]; omega))]
    · rw [if_neg hlt] at hmu
      have hq1 : 1 ≤ left / tkN w b p 10 := by
        have := Int.le_ediv_of_mul_le (a := 1) (b := left) (c := tkN w b p 10) (by omega) (by omega)
        exact this
      have hq2 : tkN w b p 10 * (left / tkN w b p 10) ≤ left := Int.mul_ediv_self_le (by omega)
      have hq3 : left < tkN w b p 10 * (left / tkN w b p 10) + tkN w b p 10 := Int.lt_mul_ediv_self_add (by omega)
      have hrc : ∀ k, k < 10 → ct w b p k → 1 ≤ rounds w b p left ∧ rounds w b p left ≤ b k - p k := fun k hk hc => rounds_ct hl hk hc
      have hc1 : 1 ≤ rounds w b p left := by rw [er]; omega
      have hcq : rounds w b p left ≤ left / tkN w b p 10 := by rw [er]; omega
      have hTc : tkN w b p 10 * rounds w b p left ≤ left := Int.le_trans (Int.mul_le_mul_of_nonneg_left hcq hT.1) hq2
      have e : stk1 w b (p, left) = (flF w b p (rounds w b p left) 10, left - tkN w b p 10 * rounds w b p left) := gvN_all (Int.le_trans (by omega : (0 : Int) ≤ 1) hc1) 10 hTc
      have hn : ((rounds w b p left).toNat : Int) = rounds w b p left := by omega
      refine ⟨⟨(rounds w b p left).toNat, ?_⟩, Or.inr ?_⟩
      · rw [e, itN_fl _ (fun k hk hc => by rw [hn]; exact (hrc k hk hc).2) (by rw [hn]; exact hTc), hn]
      · rw [e, hmu]
        have hle := fl_le (w := w) (b := b) (p := p) (c := rounds w b p left) (by omega) 10
        have hm := tkN_mono (w := w) (b := b) hle 10
        have hr := mu_rng (w := w) (b := b) (flF w b p (rounds w b p left) 10, left - tkN w b p 10 * rounds w b p left)
        dsimp only at hr
        by_cases qc : rounds w b p left = left / tkN w b p 10
        · have h3 : left - tkN w b p 10 * rounds w b p left < tkN w b p 10 := by rw [qc]; omega
          by_cases q9 : tkN w b (flF w b p (rounds w b p left) 10) 10 = tkN w b p 10
          · have := hr.2.2.2 (by omega)
            omega
          · omega
        · have hrd1 : 1 ≤ rdN w b p left 10 := by
            rcases rdN_cases (w := w) (b := b) (p := p) (left := left) 10 with h | ⟨k, hk, hc, h⟩
            · omega
            · have := hc.2
              omega
          have e5 : rounds w b p left = rdN w b p left 10 := by omega
          rcases rdN_cases (w := w) (b := b) (p := p) (left := left) 10 with h | ⟨k, hk, hc, h⟩
          · exfalso
            have h6 : left / tkN w b p 10 ≤ left := Int.ediv_le_self _ (by omega)
            omega
          · have e6 : flF w b p (rounds w b p left) 10 k = b k := by
              unfold flF
              rw [if_pos ⟨hk, hc⟩]
              omega
            have h7 := tkN_strict (w := w) (b := b) hle hc (fun z => by have := z.2; omega) 10 hk
            omega
theorem strokes_it (x : (Nat → Int) × Int) : ∀ n : Nat, (∃ N, strokes w b x n = itN w b 10 N x) ∧ (muN w b (strokes w b x n) = 0 ∨ muN w b (strokes w b x n) + n ≤ muN w b x)
  | 0 => ⟨⟨0, rfl⟩, Or.inr (by show muN w b x + 0 ≤ muN w b x; omega)⟩
  | n + 1 => by
    obtain ⟨⟨N, hN⟩, hm⟩ := strokes_it x n
    rw [strokes_succ]
    by_cases q : 0 < (strokes w b x n).2
    · rw [if_pos q]
      obtain ⟨⟨M, hM⟩, hm2⟩ := stk_it (w := w) (b := b) q
      have hr := mu_rng (w := w) (b := b) (stk1 w b (strokes w b x n))
      refine ⟨⟨N + M, by rw [hM, hN, itN_add]⟩, ?_⟩
      omega
    · rw [if_neg q]
      refine ⟨⟨N, hN⟩, Or.inl ?_⟩
      unfold muN
      rw [if_pos (Or.inl (by omega))]
/-- twelve strokes come to rest, at a state that passes of single coins reach too -/
theorem strokes12 (x : (Nat → Int) × Int) : ∃ N, strokes w b x 12 = itN w b 10 N x ∧ muN w b (strokes w b x 12) = 0 := by
  obtain ⟨⟨N, hN⟩, hm⟩ := strokes_it (w := w) (b := b) x 12
  have h1 := mu_rng (w := w) (b := b) x
  have h2 := mu_rng (w := w) (b := b) (strokes w b x 12)
  exact ⟨N, hN, by omega⟩
end COIN
