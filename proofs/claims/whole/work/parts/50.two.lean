/-! ===== two states: the component's of one, the reference's of the other ===== -/
section TWO
variable {w b : Nat → Int}
theorem gv_bw {n : Nat} {p : Nat → Int} {l : Int} {b' : Nat → Int} (hbb : ∀ k, k < n → 0 < w k → b k = b' k) : ∀ m, m ≤ n → gvN w b 1 p l m = gvN w b' 1 p l m
  | 0, _ => rfl
  | m + 1, hm => by
    have ih := gv_bw (p := p) (l := l) hbb m (by omega)
    have h9 := hbb m (by omega)
    rw [gvN_succ, gvN_succ, ← ih]
    by_cases q : ct w b (gvN w b 1 p l m).1 m ∧ 1 ≤ (gvN w b 1 p l m).2
    · rw [if_pos q, if_pos ⟨⟨q.1.1, by rw [← h9 q.1.1]; exact q.1.2⟩, q.2⟩]
    · rw [if_neg q, if_neg (fun z => q ⟨⟨z.1.1, by rw [h9 z.1.1]; exact z.1.2⟩, z.2⟩)]
theorem it_bw {n : Nat} {x : (Nat → Int) × Int} {b' : Nat → Int} (hbb : ∀ k, k < n → 0 < w k → b k = b' k) : ∀ f, itN w b n f x = itN w b' n f x
  | 0 => rfl
  | f + 1 => by
    show psN w b n (itN w b n f x) = psN w b' n (itN w b' n f x)
    rw [← it_bw hbb f]
    exact gv_bw hbb n (Nat.le_refl _)
theorem fn_bw {n : Nat} {a : Int} {b' po : Nat → Int} (hbb : ∀ k, k < n → 0 < w k → b k = b' k) (hv : okV w b n a) (hv' : okV w b' n a) : fnM w b po n a = fnM w b' po n a ∧ gvM w b n a = gvM w b' n a := by
  have hall : allN w b n = allN w b' n := smN_cong (fun k hk => by
    by_cases q : 0 < w k
    · rw [if_pos q, if_pos q, hbb k hk q]
    · rw [if_neg q, if_neg q])
  have hg : gvM w b n a = gvM w b' n a := by unfold gvM; rw [hall]
  refine ⟨?_, hg⟩
  unfold fnM
  rw [← hg]
  by_cases hs : 0 < smN w n
  · have e0 : p0m w b po (gvM w b n a) n = p0m w b' po (gvM w b n a) n := by
      funext k
      unfold p0m
      by_cases hk : k < n
      · rw [if_pos hk, if_pos hk]
        by_cases q : 0 < w k
        · rw [hbb k hk q]
        · have h5 := hv.1 k hk
          have h6 := hv'.1 k hk
          have hz : w k = 0 := by omega
          rw [hz, Int.mul_zero, Int.zero_ediv]
          omega
      · rw [if_neg hk, if_neg hk]
    rw [if_pos hs, if_pos hs, whM_it, whM_it, ← e0, it_bw hbb]
  · rw [if_neg hs, if_neg hs]
def RF2 (C M : St) (i : Nat) : Prop := C 4 i 3 = M 17 0 i ∧ C 4 i 4 = M 12 0 i ∧ C 4 i 5 = M 13 0 i ∧ C 4 i 6 = M 14 0 i ∧ C 4 i 7 = M 15 0 i ∧ C 4 i 8 = M 16 0 i ∧ C 4 i 9 = M 18 0 i ∧ C 4 i 10 = M 19 0 i ∧ C 4 i 11 = M 20 0 i ∧ C 4 i 12 = M 25 0 i
def R2 (C M : St) : Prop := C 0 0 3 = M 11 0 9 ∧ (∀ i, i < 10 → RF2 C M i) ∧ ∀ k : Nat, k < 10 → C 0 0 3 ≤ k → C 8 0 k = 0 ∧ C 4 k 12 = 0
theorem Inv.r2 {t : Nat} {S : St} (h : Inv t S) : R2 S S := ⟨h.cnt, h.2.2.2.1, fun k hk hc => ⟨(h.rz k hk hc).1, (h.rz k hk hc).2.1⟩⟩
theorem R2.act {C M : St} (h : R2 C M) {i : Nat} (hi : i < 10) : actv C i ↔ mact M i := by
  have e := (h.2.1 i hi).1
  unfold actv mact
  rw [e]
theorem R2.n {C M : St} (h : R2 C M) : cN C = nM M := by
  unfold cN nM
  rw [h.1]
theorem prS_pM {C M : St} (h : R2 C M) (hc : CI C) {wC bC wM bM : Nat → Int} {a : Int} (hw : ∀ k, k < nM M → wC k = wM k ∧ (0 < wM k → bC k = bM k)) (hvC : ∀ k, k < 10 → (0 ≤ wC k ∧ wC k ≤ 100000000) ∧ 0 ≤ bC k ∧ bC k ≤ 100000000) (hvM : ∀ k, k < nM M → (0 ≤ wM k ∧ wM k ≤ 100000000) ∧ 0 ≤ bM k ∧ bM k ≤ 100000000) (ha : 0 ≤ a ∧ a ≤ 100000000) :
    (∀ k, k < nM M → (prS C wC bC a).1 k = pM M wM bM a k) ∧ (prS C wC bC a).2 = a - gM M wM bM a := by
  have hn : cN C = nM M := h.n
  have hc3 := hc.1
  have hn10 : nM M ≤ 10 := by rw [← hn]; unfold cN; omega
  have hP := hc.2.2.2.2.2.1
  have e8 : ∀ k, k < nM M → entS C wC bC (cN C) 8 0 k = wC k := fun k hk => by
    show (if (0 : Nat) = 0 ∧ k < cN C then wC k else C 8 0 k) = _
    rw [if_pos ⟨rfl, by omega⟩]
  have e9 : ∀ k, k < nM M → entS C wC bC (cN C) 9 0 k = bC k := fun k hk => by
    show (if (0 : Nat) = 0 ∧ k < cN C then bC k else C 9 0 k) = _
    rw [if_pos ⟨rfl, by omega⟩]
  have f8 : ∀ k, nM M ≤ k → k < 10 → entS C wC bC (cN C) 8 0 k = 0 ∧ 0 ≤ entS C wC bC (cN C) 9 0 k := fun k hk hk2 => by
    have h3 := h.2.2 k hk2 (by unfold cN at hn; omega)
    refine ⟨?_, ?_⟩
    · show (if (0 : Nat) = 0 ∧ k < cN C then wC k else C 8 0 k) = _
      rw [if_neg (by omega)]
      exact h3.1
    · show 0 ≤ (if (0 : Nat) = 0 ∧ k < cN C then bC k else C 9 0 k)
      rw [if_neg (by omega)]
      exact (hP k hk2).2.1.1
  have hvE : okV (entM M wM bM (nM M) 26 0) (entM M wM bM (nM M) 27 0) (nM M) a := okV_ent hvM ha
  have hvE2 : okV (entM M wM bM (nM M) 26 0) bC (nM M) a := ⟨fun k hk => by rw [entM_26 hk]; exact ⟨(hvM k hk).1, (hvC k (by omega)).2⟩, ha⟩
  have hp := peq (W := entS C wC bC (cN C) 8 0) (B := entS C wC bC (cN C) 9 0) (w := entM M wM bM (nM M) 26 0) (b := bC) hn10 (fun k hk => ⟨by rw [e8 k hk, entM_26 hk, (hw k hk).1], e9 k hk⟩) f8 hvE2 (C 10 0) (M 28 0)
  have hb := fn_bw (w := entM M wM bM (nM M) 26 0) (b := bC) (b' := entM M wM bM (nM M) 27 0) (po := M 28 0) (fun k hk q => by
    rw [entM_26 hk] at q
    rw [entM_27 hk, (hw k hk).2 q]) hvE2 hvE
  rw [hb.1, hb.2] at hp
  exact hp
theorem eat_4 (C : St) (w b : Nat → Int) (a : Int) (fld : Nat) (f : Nat → Int) (i k : Nat) : eatS C w b a fld f 4 i k = if k = fld ∧ i < cN C then f i else C 4 i k := by
  show (if 4 = 4 ∧ k = fld ∧ i < cN C then f i else C 4 i k) = _
  by_cases q : k = fld ∧ i < cN C
  · rw [if_pos ⟨rfl, q⟩, if_pos q]
  · rw [if_neg (fun z => q z.2), if_neg q]
theorem et_T (M : St) (w b : Nat → Int) (a : Int) (T : Nat) (f : Nat → Int) (t k : Nat) (h26 : t < 26) : etM M w b a T f t 0 k = if t = T ∧ k < nM M then f k else M t 0 k := by
  show (if t = T ∧ 0 = 0 ∧ k < nM M then f k else wpM (entM M w b (nM M)) _ t 0 k) = _
  by_cases q : t = T ∧ k < nM M
  · rw [if_pos ⟨q.1, rfl, q.2⟩, if_pos q]
  · rw [if_neg (fun z => q ⟨z.1, z.2.2⟩), if_neg q]
    unfold wpM upT entM aS
    rw [if_neg (by omega), if_neg (by omega), if_neg (by omega)]
theorem eat_R2 {C M : St} (h : R2 C M) {wC bC wM bM fC fM : Nat → Int} {a a' : Int} {fld T : Nat} (hf : ∀ i, i < nM M → fC i = fM i) (hT : fld = 5 ∧ T = 13 ∨ fld = 7 ∧ T = 15 ∨ fld = 10 ∧ T = 19) : R2 (eatS C wC bC a fld fC) (etM M wM bM a' T fM) := by
  have hn : cN C = nM M := h.n
  have hcN : ((cN C : Nat) : Int) = C 0 0 3 ∨ C 0 0 3 < 0 := by unfold cN; omega
  refine ⟨?_, fun i hi => ?_, fun k hk hc => ?_⟩
  · have e1 : etM M wM bM a' T fM 11 0 9 = M 11 0 9 := by rw [et_T _ _ _ _ _ _ _ _ (by omega), if_neg (by omega)]
    rw [e1]
    exact h.1
  · have hF := h.2.1 i hi
    unfold RF2 at hF ⊢
    have hff := hf i
    simp only [eat_4, et_T M wM bM a' T fM _ i (show 17 < 26 by omega), et_T M wM bM a' T fM _ i (show 12 < 26 by omega), et_T M wM bM a' T fM _ i (show 13 < 26 by omega), et_T M wM bM a' T fM _ i (show 14 < 26 by omega), et_T M wM bM a' T fM _ i (show 15 < 26 by omega), et_T M wM bM a' T fM _ i (show 16 < 26 by omega), et_T M wM bM a' T fM _ i (show 18 < 26 by omega), et_T M wM bM a' T fM _ i (show 19 < 26 by omega), et_T M wM bM a' T fM _ i (show 20 < 26 by omega), et_T M wM bM a' T fM _ i (show 25 < 26 by omega), hn]
    by_cases q : i < nM M
    · have hff := hff q
      rcases hT with ⟨rfl, rfl⟩ | ⟨rfl, rfl⟩ | ⟨rfl, rfl⟩ <;> simp [q, hF, hff]
    · simp [q, hF]
  · have h3 := h.2.2 k hk hc
    refine ⟨?_, ?_⟩
    · show (if (0 : Nat) = 0 ∧ k < cN C then wC k else C 8 0 k) = _
      have hc' : C 0 0 3 ≤ k := hc
      rw [if_neg (by unfold cN; omega)]
      exact h3.1
    · rw [eat_4, if_neg (by omega)]
      exact h3.2
theorem nd_eq {f f' : Nat → Int} : ∀ m, (∀ k, k < m → f k = f' k ∧ 0 ≤ f k) → ndN f m = ndM f' m ∧ 0 ≤ (ndN f m).2 ∧ (ndN f m).2 ≤ (ndN f m).1
  | 0, _ => ⟨rfl, Int.le_refl _, Int.le_refl _⟩
  | m + 1, h => by
    obtain ⟨e, h1, h2⟩ := nd_eq m (fun k hk => h k (by omega))
    have h9 := h m (by omega)
    have e2 : ndN f (m + 1) = (max (ndN f m).1 (f m), max (ndN f m).2 (min (f m) (ndN f m).1)) := rfl
    have e3 : ndM f' (m + 1) = (if (ndM f' m).1 < f' m then f' m else (ndM f' m).1, if (ndM f' m).1 < f' m then (ndM f' m).1 else if (ndM f' m).2 < f' m then f' m else (ndM f' m).2) := rfl
    rw [e2, e3, ← e, ← h9.1]
    refine ⟨?_, by dsimp only; omega, by dsimp only; omega⟩
    by_cases q : (ndN f m).1 < f m
    · rw [if_pos q, if_pos q, Int.max_eq_right (by omega), Int.min_eq_right (by omega), Int.max_eq_right h2]
    · rw [if_neg q, if_neg q, Int.max_eq_left (by omega), Int.min_eq_left (by omega)]
      by_cases q2 : (ndN f m).2 < f m
      · rw [if_pos q2, Int.max_eq_right (by omega)]
      · rw [if_neg q2, Int.max_eq_left (by omega)]
end TWO
