/-! ===== fail: all clients are moved, two sides ===== -/
section MOVES
def MV (C M : St) (z : Nat) (s : Nat → Nat) (k : Nat) : Prop := (C 0 0 3 = M 11 0 9 ∧ 0 ≤ M 11 0 9 ∧ M 11 0 9 ≤ 10) ∧ (∀ j, j < 10 → (actv C j ↔ mact M j)) ∧ (∀ j, j < 10 → C 4 j 6 = M 14 0 j) ∧ (∀ j, j < 10 → MI C j) ∧ (∀ j, j < 10 → j ≠ z → ∃ s', RCi2 C M s' j) ∧ MZ C M z s k ∧ RX M ∧ ¬ actv C z ∧ ∀ j : Nat, j < 10 → C 0 0 3 ≤ j → j ≠ z → C 4 j 2 = 0
theorem MV_step {C M : St} {z k : Nat} {s : Nat → Nat} (hz : z < 10) (h : MV C M z s k) (hk : (k : Int) < C 4 z 1) :
    MV (mv1 C (C 5 z k)).1 (mf1 M (s k)) z s (k + 1) ∧ foN M z (nC M) = (s k : Int) ∧ (mv1 C (C 5 z k)).2 = (if ownN M (M 22 0 (s k)) (nM M) = -1 then M 22 0 (s k) else 0) ∧ (mv1 C (C 5 z k)).1 4 z 1 = C 4 z 1 ∧ (mv1 C (C 5 z k)).1 5 z = C 5 z := by
  obtain ⟨h1, h2, h3, h4, h5, h6, h7, h8, h9⟩ := h
  have hfo := fo_eq h6 hk
  have hs := h6.1 k (Nat.le_refl _) hk
  have hx := h7 (s k) hs.1
  have hMz := h4 z hz
  have hlo : 1 ≤ C 5 z k ∧ C 5 z k ≤ 20 := by
    have h100 := hMz.1
    have h20 := hMz.2.2.2.2.2.2.2.2.2.2 k (by omega)
    rw [hs.2.2] at hx
    omega
  have hroom : ∀ j, j < 10 → actv C j → romM M j = C 4 j 6 - C 4 j 2 ∧ C 4 j 1 ≤ C 4 j 2 ∧ C 4 j 6 ≤ 100 := fun j hj ha => by
    obtain ⟨s', hs'⟩ := h5 j hj (fun w => h8 (w ▸ ha))
    have e1 := hs'.1
    have e2 := h3 j hj
    have e3 := (h4 j hj).2.2.2.2.2.1
    unfold romM
    omega
  have hn : cN C = nM M := by unfold cN nM; rw [h1.1]
  have hn10 := nM_le h1.2
  have hne := nM_eq h1.2
  have e := mf1_keep M (s k)
  have enC : nC (mf1 M (s k)) = nC M := by unfold nC; rw [e.2.1 14 (by omega) (by omega)]
  have hX : ∀ o : Int, ownN M (M 22 0 (s k)) (nM M) = o → o < M 11 0 9 → RX (mf1 M (s k)) := fun o ho ho2 c hc => by
    rw [enC] at hc
    have hxc := h7 c hc
    rw [e.1 22 (by omega) (by omega) (by omega), e.2.2.1 c, e.2.2.2.1 c, e.2.2.2.2.1, e.2.1 9 (by omega) (by omega), ho]
    by_cases q : c = s k
    · rw [if_pos q, if_pos q]
      exact ⟨hxc.1, by omega, ho2⟩
    · rw [if_neg q, if_neg q]
      exact ⟨hxc.1, by omega, hxc.2.2⟩
  have e17 : mf1 M (s k) 17 = M 17 := e.1 17 (by omega) (by omega) (by omega)
  have e14 : mf1 M (s k) 14 = M 14 := e.1 14 (by omega) (by omega) (by omega)
  have e9 : mf1 M (s k) 11 0 9 = M 11 0 9 := e.2.1 9 (by omega) (by omega)
  have hact2 : ∀ j, mact (mf1 M (s k)) j ↔ mact M j := fun j => by unfold mact; rw [e17]
  have hl1 : 1 ≤ M 22 0 (s k) := hx.1
  have hmv : mv1 C (C 5 z k) = match hostN C (C 5 z k) (cN C) with
    | some j => (takeS C j (C 5 z k), 0)
    | none => (C, C 5 z k) := rfl
  have hw := own_eq h2 hroom (lots := C 5 z k) hlo.1 (cN C) (by omega)
  rw [hn] at hw
  rw [hn] at hmv
  rw [← hs.2.2] at hw
  rcases hw with ⟨w1, w2⟩ | ⟨j, w1, w2, w3, w4, w5⟩
  · rw [hs.2.2] at w1
    rw [w1] at hmv
    dsimp only at hmv
    rw [hmv, w2]
    refine ⟨⟨⟨by rw [e9]; exact h1.1, by rw [e9]; exact h1.2⟩, fun j hj => (h2 j hj).trans (hact2 j).symm, fun j hj => by rw [e14]; exact h3 j hj, h4, fun j hj hjz => ?_, ?_, hX _ w2 (by omega), h8, h9⟩, hfo, ?_, rfl, rfl⟩
    · obtain ⟨s', hs'⟩ := h5 j hj hjz
      exact ⟨s', RCi2_other hs' hs.1 hs.2.1 hjz (by rw [w2]; omega) rfl rfl rfl rfl⟩
    · exact MZ_step h6 hk (by rw [w2]; omega) rfl rfl
    · rw [if_pos rfl]
      exact hs.2.2.symm
  · rw [hs.2.2] at w1 w5
    rw [w1] at hmv
    dsimp only at hmv
    have hjz : j ≠ z := fun w => h8 (w ▸ w4)
    have t4 : ∀ j' f, j' ≠ j → takeS C j (C 5 z k) 4 j' f = C 4 j' f := fun j' f w => by simp [takeS, up3, w]
    have t4f : ∀ j' f, f ≠ 1 → f ≠ 2 → takeS C j (C 5 z k) 4 j' f = C 4 j' f := fun j' f w w' => by simp [takeS, up3, w, w']
    have t5 : ∀ j', j' ≠ j → takeS C j (C 5 z k) 5 j' = C 5 j' := fun j' w => by
      funext q
      simp [takeS, up3, w]
    have ta : ∀ j', actv (takeS C j (C 5 z k)) j' ↔ actv C j' := fun j' => by
      unfold actv
      rw [t4f j' 3 (by omega) (by omega)]
    have t0 : takeS C j (C 5 z k) 0 0 3 = C 0 0 3 := rfl
    rw [hmv, w2]
    refine ⟨⟨⟨by rw [e9]; exact h1.1, by rw [e9]; exact h1.2⟩, fun j' hj' => (ta j').trans ((h2 j' hj').trans (hact2 j').symm), fun j' hj' => by rw [e14]; exact (t4f j' 6 (by omega) (by omega)).trans (h3 j' hj'), takeS_MI w5 (by omega) h4, fun j' hj' hjz' => ?_, ?_, hX _ w2 (by omega), fun w => h8 ((ta z).mp w), fun j' hj' hc hjz' => ?_⟩, hfo, ?_, t4 z 1 hjz.symm, t5 z hjz.symm⟩
    · by_cases q : j' = j
      · subst q
        obtain ⟨s', hs'⟩ := h5 j' hj' hjz'
        have hq := RCi2_take hs' (h4 j' hj').1.1 hs.1 hs.2.1 hjz' h7 w2 (by rw [hs.2.2]; exact w5.1)
        rw [hs.2.2] at hq
        exact hq
      · obtain ⟨s', hs'⟩ := h5 j' hj' hjz'
        exact ⟨s', RCi2_other hs' hs.1 hs.2.1 hjz' (by rw [w2]; omega) (t4 j' 1 q) (t4 j' 2 q) (t4 j' 6 q) (t5 j' q)⟩
    · exact MZ_step h6 hk (by rw [w2]; omega) (t4 z 1 hjz.symm) (t5 z hjz.symm)
    · have hc' : C 0 0 3 ≤ j' := hc
      exact (t4 j' 2 (by omega)).trans (h9 j' hj' hc' hjz')
    · rw [if_neg (by omega)]
/-- all of them -/
theorem MV_all {C0 : St} {z : Nat} {s : Nat → Nat} (hz : z < 10) {v came : Int} : ∀ (f k : Nat) (M : St), MV (mvN C0 z k).1 M z s k → (mvN C0 z k).1 4 z 1 = C0 4 z 1 → (mvN C0 z k).1 5 z = C0 5 z → (k : Int) ≤ C0 4 z 1 → M 11 0 19 = v + (mvN C0 z k).2 → M 11 0 13 = came + k → foN (mfN z f M) z (nC M) = -1 →
    MV (mvN C0 z (C0 4 z 1).toNat).1 (mfN z f M) z s (C0 4 z 1).toNat ∧ mfN z f M 11 0 19 = v + (mvN C0 z (C0 4 z 1).toNat).2 ∧ mfN z f M 11 0 13 = came + C0 4 z 1 := by
  intro f
  induction f with
  | zero =>
    intro k M h e1 e5 hk hb hcm hfo
    have hfo' : foN M z (nC M) = -1 := hfo
    by_cases q : (k : Int) < C0 4 z 1
    · have h9 := (MV_step hz h (by rw [e1]; exact q)).2.1
      omega
    · have ek : (C0 4 z 1).toNat = k := by omega
      rw [ek]
      exact ⟨h, hb, by show M 11 0 13 = _; omega⟩
  | succ f ih =>
    intro k M h e1 e5 hk hb hcm hfo
    by_cases q : (k : Int) < C0 4 z 1
    · obtain ⟨h9, hf9, hl9, hz1, hz5⟩ := MV_step hz h (by rw [e1]; exact q)
      rw [e5] at h9 hl9 hz1 hz5
      have e := mf1_keep M (s k)
      have enC : nC (mf1 M (s k)) = nC M := by unfold nC; rw [e.2.1 14 (by omega) (by omega)]
      have eM : mfN z (f + 1) M = mfN z f (mf1 M (s k)) := by
        show (if foN M z (nC M) = -1 then M else mfN z f (mf1 M (foN M z (nC M)).toNat)) = _
        rw [hf9, if_neg (by omega)]
        rfl
      rw [eM] at hfo ⊢
      have em : mvN C0 z (k + 1) = ((mv1 (mvN C0 z k).1 (C0 5 z k)).1, (mvN C0 z k).2 + (mv1 (mvN C0 z k).1 (C0 5 z k)).2) := rfl
      refine ih (k + 1) (mf1 M (s k)) (by rw [em]; exact h9) (by rw [em]; exact hz1.trans e1) (by rw [em]; exact hz5) (by omega) ?_ ?_ (by rw [enC]; exact hfo)
      · rw [em, e.2.2.2.2.2, hb]
        dsimp only
        rw [hl9]
        omega
      · rw [e.2.2.2.2.1, hcm]
        omega
    · have ek : (C0 4 z 1).toNat = k := by omega
      have hno : foN M z (nC M) = -1 := by
        rcases foN_rng M z (nC M) with ⟨w, _⟩ | ⟨j, ej, hj, hjz, _⟩
        · exact w
        · obtain ⟨q9, hq, hqc, _⟩ := h.2.2.2.2.2.1.2.2 j hj hjz
          rw [e1] at hqc
          omega
      have eM : mfN z (f + 1) M = M := by
        show (if foN M z (nC M) = -1 then M else _) = _
        rw [if_pos hno]
      rw [eM, ek]
      exact ⟨h, hb, by omega⟩
end MOVES
