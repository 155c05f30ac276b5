/-! ===== fail: a client is moved, two sides ===== -/
section MOVE
def RCi2 (C M : St) (s : Nat → Nat) (i : Nat) : Prop := (C 4 i 1 ≤ C 4 i 2 ∧ C 4 i 2 ≤ C 4 i 6 ∧ C 4 i 2 = lotM M i (nC M)) ∧ (∀ k : Nat, (k : Int) < C 4 i 1 → s k < nC M ∧ M 21 0 (s k) = i ∧ M 22 0 (s k) = C 5 i k) ∧ (∀ k k' : Nat, k < k' → (k' : Int) < C 4 i 1 → M 23 0 (s k) < M 23 0 (s k')) ∧ (∀ c, c < nC M → M 21 0 c = i → ∃ k : Nat, (k : Int) < C 4 i 1 ∧ s k = c)
def MZ (C M : St) (z : Nat) (s : Nat → Nat) (k : Nat) : Prop := (∀ q : Nat, k ≤ q → (q : Int) < C 4 z 1 → s q < nC M ∧ M 21 0 (s q) = z ∧ M 22 0 (s q) = C 5 z q) ∧ (∀ q q' : Nat, k ≤ q → q < q' → (q' : Int) < C 4 z 1 → M 23 0 (s q) < M 23 0 (s q')) ∧ (∀ c, c < nC M → M 21 0 c = z → ∃ q : Nat, k ≤ q ∧ (q : Int) < C 4 z 1 ∧ s q = c)
theorem fo_eq {C M : St} {z k : Nat} {s : Nat → Nat} (h : MZ C M z s k) (hk : (k : Int) < C 4 z 1) : foN M z (nC M) = (s k : Int) := by
  have h1 := h.1 k (Nat.le_refl _) hk
  rcases foN_rng M z (nC M) with ⟨_, hn⟩ | ⟨j, ej, hj, hjz, hmin⟩
  · exact absurd h1.2.1 (hn (s k) h1.1)
  · obtain ⟨q, hq, hqc, eq⟩ := h.2.2 j hj hjz
    have h3 := hmin (s k) h1.1 h1.2.1
    by_cases e : q = k
    · rw [ej, ← eq, e]
    · have h4 := h.2.1 k q (Nat.le_refl _) (by omega) hqc
      rw [eq] at h4
      omega
theorem own_eq {C M : St} {lots : Int} (hact : ∀ j, j < 10 → (actv C j ↔ mact M j)) (hroom : ∀ j, j < 10 → actv C j → romM M j = C 4 j 6 - C 4 j 2 ∧ C 4 j 1 ≤ C 4 j 2 ∧ C 4 j 6 ≤ 100) (hl : 1 ≤ lots) : ∀ m, m ≤ 10 → (hostN C lots m = none ∧ ownN M lots m = -1) ∨ ∃ j : Nat, hostN C lots m = some j ∧ ownN M lots m = j ∧ j < m ∧ actv C j ∧ taken C j lots
  | 0, _ => Or.inl ⟨rfl, rfl⟩
  | m + 1, hm => by
    have e1 : hostN C lots (m + 1) = match hostN C lots m with
      | some j => some j
      | none => if actv C m ∧ taken C m lots then some m else none := rfl
    have e2 : ownN M lots (m + 1) = if ownN M lots m ≠ -1 then ownN M lots m else if mact M m ∧ lots ≤ romM M m then (m : Int) else -1 := rfl
    rcases own_eq hact hroom hl m (by omega) with ⟨h1, h2⟩ | ⟨j, h1, h2, h3, h4, h5⟩
    · have ha := hact m (by omega)
      have e3 : ownN M lots (m + 1) = if mact M m ∧ lots ≤ romM M m then (m : Int) else -1 := by
        rw [e2, h2]
        exact if_neg (show ¬ ((-1 : Int) ≠ -1) from fun z => z rfl)
      by_cases q : actv C m ∧ taken C m lots
      · have hr := hroom m (by omega) q.1
        have ht := q.2.1
        refine Or.inr ⟨m, ?_, ?_, by omega, q.1, q.2⟩
        · rw [e1, h1]
          exact if_pos q
        · rw [e3]
          exact if_pos ⟨ha.mp q.1, by omega⟩
      · refine Or.inl ⟨?_, ?_⟩
        · rw [e1, h1]
          exact if_neg q
        · rw [e3]
          exact if_neg (fun z => q ⟨ha.mpr z.1, by
            have hr := hroom m (by omega) (ha.mpr z.1)
            have hz := z.2
            exact ⟨by omega, by omega⟩⟩)
    · refine Or.inr ⟨j, ?_, ?_, by omega, h4, h5⟩
      · rw [e1, h1]
      · rw [e2, h2]
        exact if_pos (by omega)
/-- the other members' clients, when client c of z goes to o -/
theorem RCi2_other {C M : St} {s : Nat → Nat} {i : Nat} (h : RCi2 C M s i) {c : Nat} {z : Nat} (hc : c < nC M) (hcz : M 21 0 c = z) (hiz : i ≠ z) (ho : ownN M (M 22 0 c) (nM M) ≠ i) {C' : St} (h41 : C' 4 i 1 = C 4 i 1) (h42 : C' 4 i 2 = C 4 i 2) (h46 : C' 4 i 6 = C 4 i 6) (h5 : C' 5 i = C 5 i) : RCi2 C' (mf1 M c) s i := by
  have e := mf1_keep M c
  have e22 : mf1 M c 22 = M 22 := e.1 22 (by omega) (by omega) (by omega)
  have enC : nC (mf1 M c) = nC M := by unfold nC; rw [e.2.1 14 (by omega) (by omega)]
  have hne : ∀ k, M 21 0 k = i → k ≠ c := fun k hk z9 => by rw [z9, hcz] at hk; omega
  have hl : lotM (mf1 M c) i (nC M) = lotM M i (nC M) := smN_cong (fun k hk => by
    show (if mf1 M c 21 0 k = i then mf1 M c 22 0 k else 0) = (if M 21 0 k = i then M 22 0 k else 0)
    rw [e22, e.2.2.1 k]
    by_cases q : k = c
    · rw [if_pos q, if_neg ho, if_neg (by rw [q, hcz]; omega)]
    · rw [if_neg q])
  unfold RCi2
  rw [enC, hl, h41, h42, h46, h5, e22]
  refine ⟨h.1, fun k hk => ?_, fun k k' a b => ?_, fun c9 hc9 ho9 => ?_⟩
  · have h9 := h.2.1 k hk
    rw [e.2.2.1 (s k), if_neg (hne _ h9.2.1)]
    exact h9
  · have h9 := h.2.1 k (by omega)
    have h8 := h.2.1 k' b
    rw [e.2.2.2.1 (s k), e.2.2.2.1 (s k'), if_neg (hne _ h9.2.1), if_neg (hne _ h8.2.1)]
    exact h.2.2.1 k k' a b
  · rw [e.2.2.1 c9] at ho9
    by_cases q : c9 = c
    · rw [if_pos q] at ho9
      exact absurd ho9 ho
    · rw [if_neg q] at ho9
      exact h.2.2.2 c9 hc9 ho9
/-- the member that takes client c -/
theorem RCi2_take {C M : St} {s : Nat → Nat} {i : Nat} (h : RCi2 C M s i) (h0 : 0 ≤ C 4 i 1) {c : Nat} {z : Nat} (hc : c < nC M) (hcz : M 21 0 c = z) (hiz : i ≠ z) (hx : RX M) (ho : ownN M (M 22 0 c) (nM M) = i) (ht : M 22 0 c ≤ C 4 i 6 - C 4 i 2) : ∃ s', RCi2 (takeS C i (M 22 0 c)) (mf1 M c) s' i := by
  have e := mf1_keep M c
  have e22 : mf1 M c 22 = M 22 := e.1 22 (by omega) (by omega) (by omega)
  have enC : nC (mf1 M c) = nC M := by unfold nC; rw [e.2.1 14 (by omega) (by omega)]
  have hne : ∀ k, M 21 0 k = i → k ≠ c := fun k hk z9 => by rw [z9, hcz] at hk; omega
  have hl : lotM (mf1 M c) i (nC M) = lotM M i (nC M) + M 22 0 c := smN_upd hc (fun k hk => by
    rw [e22, e.2.2.1 k, if_neg hk]) (by
    rw [e22, e.2.2.1 c, if_pos rfl, if_pos ho, if_neg (by rw [hcz]; omega)]
    omega)
  have e41 : takeS C i (M 22 0 c) 4 i 1 = C 4 i 1 + 1 := by simp [takeS, up3]
  have e42 : takeS C i (M 22 0 c) 4 i 2 = C 4 i 2 + M 22 0 c := by simp [takeS, up3]
  have e46 : takeS C i (M 22 0 c) 4 i 6 = C 4 i 6 := by simp [takeS, up3]
  have e5 : ∀ k, takeS C i (M 22 0 c) 5 i k = if k = (C 4 i 1).toNat then M 22 0 c else C 5 i k := fun k => by simp [takeS, up3]
  have hxc := (hx c hc).1
  refine ⟨fun k => if k = (C 4 i 1).toNat then c else s k, ?_, fun k hk => ?_, fun k k' a b => ?_, fun c9 hc9 ho9 => ?_⟩
  · rw [enC, hl, e41, e42, e46]
    have := h.1
    omega
  · rw [e41] at hk
    dsimp only
    by_cases q : k = (C 4 i 1).toNat
    · rw [if_pos q, enC, e22, e.2.2.1 c, if_pos rfl, e5, if_pos q]
      exact ⟨hc, ho, rfl⟩
    · have h9 := h.2.1 k (by omega)
      rw [if_neg q, enC, e22, e.2.2.1 (s k), if_neg (hne _ h9.2.1), e5, if_neg q]
      exact h9
  · rw [e41] at b
    dsimp only
    have h9 := h.2.1 k (by omega)
    rw [if_neg (show ¬ k = (C 4 i 1).toNat by omega), e.2.2.2.1 (s k), if_neg (hne _ h9.2.1)]
    by_cases q : k' = (C 4 i 1).toNat
    · rw [if_pos q, e.2.2.2.1 c, if_pos rfl]
      exact (hx _ h9.1).2.1
    · have h8 := h.2.1 k' (by omega)
      rw [if_neg q, e.2.2.2.1 (s k'), if_neg (hne _ h8.2.1)]
      exact h.2.2.1 k k' a (by omega)
  · rw [enC] at hc9
    rw [e.2.2.1 c9] at ho9
    rw [e41]
    by_cases q : c9 = c
    · exact ⟨(C 4 i 1).toNat, by omega, by dsimp only; rw [if_pos rfl, q]⟩
    · rw [if_neg q] at ho9
      obtain ⟨k, hk, ek⟩ := h.2.2.2 c9 hc9 ho9
      exact ⟨k, by omega, by dsimp only; rw [if_neg (by omega)]; exact ek⟩
/-- the failing member's clients that are left -/
theorem MZ_step {C M : St} {z k : Nat} {s : Nat → Nat} (h : MZ C M z s k) (hk : (k : Int) < C 4 z 1) (ho : ownN M (M 22 0 (s k)) (nM M) ≠ z) {C' : St} (h41 : C' 4 z 1 = C 4 z 1) (h5 : C' 5 z = C 5 z) : MZ C' (mf1 M (s k)) z s (k + 1) := by
  have e := mf1_keep M (s k)
  have e22 : mf1 M (s k) 22 = M 22 := e.1 22 (by omega) (by omega) (by omega)
  have enC : nC (mf1 M (s k)) = nC M := by unfold nC; rw [e.2.1 14 (by omega) (by omega)]
  have hne : ∀ q : Nat, k + 1 ≤ q → (q : Int) < C 4 z 1 → s q ≠ s k := fun q a b w => by
    have h4 := h.2.1 k q (Nat.le_refl _) (by omega) b
    rw [w] at h4
    omega
  unfold MZ
  rw [h41, h5, enC, e22]
  refine ⟨fun q a b => ?_, fun q q' a b d => ?_, fun c hc hcz => ?_⟩
  · have h9 := h.1 q (by omega) b
    rw [e.2.2.1 (s q), if_neg (hne q a b)]
    exact h9
  · rw [e.2.2.2.1 (s q), e.2.2.2.1 (s q'), if_neg (hne q a (by omega)), if_neg (hne q' (by omega) d)]
    exact h.2.1 q q' (by omega) b d
  · rw [e.2.2.1 c] at hcz
    by_cases w : c = s k
    · rw [if_pos w] at hcz
      exact absurd hcz ho
    · rw [if_neg w] at hcz
      obtain ⟨q, hq, hqc, eq⟩ := h.2.2 c hc hcz
      exact ⟨q, by
        by_cases w2 : q = k
        · rw [w2] at eq; exact absurd eq.symm w
        · omega, hqc, eq⟩
end MOVE
