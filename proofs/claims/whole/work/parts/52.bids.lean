/-! ===== bids, winners, ranks: two sides ===== -/
section BIDS
def RB2 (C M : St) : Prop := C 2 0 1 = M 11 0 19 ∧ ∀ i, i < 10 → ∀ l : Nat, (l : Int) < C 2 0 1 → C 7 i l = trB (M 24 0 (10 * l + i)) ∧ (C 0 0 3 ≤ i → C 7 i l = -1001)
theorem wm_inv {C M : St} (hb : RB2 C M) (hB : mB M) (hn : nM M ≤ 10) {l : Nat} (hl : (l : Int) < C 2 0 1) (hl2 : l < 120) : ∀ m, m ≤ nM M →
    wnN (fun i => C 7 i l) m = (if wmN M l m = -1 then ((-1 : Int), (-1001 : Int)) else (wmN M l m, M 24 0 (10 * l + (wmN M l m).toNat))) ∧ (wmN M l m = -1 ∨ (0 ≤ wmN M l m ∧ wmN M l m < m) ∧ M 24 0 (10 * l + (wmN M l m).toNat) ≠ 5000) ∧ (wmN M l m = -1 → ∀ k, k < m → M 24 0 (10 * l + k) = 5000)
  | 0, _ => ⟨rfl, Or.inl rfl, fun _ k hk => absurd hk (by omega)⟩
  | m + 1, hm => by
    obtain ⟨e, h1, h2⟩ := wm_inv hb hB hn hl hl2 m (by omega)
    have h3 := (hb.2 m (by omega) l hl).1
    have h4 := hB (10 * l + m) (by omega)
    have hs : wmN M l (m + 1) = if M 24 0 (10 * l + m) ≠ 5000 ∧ (wmN M l m = -1 ∨ M 24 0 (10 * l + (wmN M l m).toNat) < M 24 0 (10 * l + m)) then (m : Int) else wmN M l m := rfl
    have hc : wnN (fun i => C 7 i l) (m + 1) = if (wnN (fun i => C 7 i l) m).2 < C 7 m l then ((m : Int), C 7 m l) else wnN (fun i => C 7 i l) m := rfl
    rw [hc, e, h3]
    unfold trB
    by_cases q5 : M 24 0 (10 * l + m) = 5000
    · have hs2 : wmN M l (m + 1) = wmN M l m := by rw [hs, if_neg (fun z => z.1 q5)]
      rw [hs2, if_pos q5]
      have hlo : ¬ (if wmN M l m = -1 then ((-1 : Int), (-1001 : Int)) else (wmN M l m, M 24 0 (10 * l + (wmN M l m).toNat))).2 < -1001 := by
        by_cases q : wmN M l m = -1
        · rw [if_pos q]; dsimp only; omega
        · rw [if_neg q]
          rcases h1 with h1 | ⟨h1, h5⟩
          · exact absurd h1 q
          · have := hB (10 * l + (wmN M l m).toNat) (by omega)
            dsimp only
            omega
      rw [if_neg hlo]
      refine ⟨rfl, ?_, fun q k hk => ?_⟩
      · rcases h1 with h1 | ⟨h1, h5⟩
        · exact Or.inl h1
        · exact Or.inr ⟨by omega, h5⟩
      · by_cases ek : k = m
        · rw [ek]; exact q5
        · exact h2 q k (by omega)
    · rw [if_neg q5]
      by_cases q : wmN M l m = -1
      · have hs2 : wmN M l (m + 1) = (m : Int) := by rw [hs, if_pos ⟨q5, Or.inl q⟩]
        rw [hs2, if_pos q, if_pos (by dsimp only; omega), if_neg (by omega)]
        have e9 : ((m : Int)).toNat = m := by omega
        exact ⟨by rw [e9], Or.inr ⟨by omega, by rw [e9]; exact q5⟩, fun z => by omega⟩
      · rw [if_neg q]
        by_cases q6 : M 24 0 (10 * l + (wmN M l m).toNat) < M 24 0 (10 * l + m)
        · have hs2 : wmN M l (m + 1) = (m : Int) := by rw [hs, if_pos ⟨q5, Or.inr q6⟩]
          rw [hs2, if_pos q6, if_neg (by omega)]
          have e9 : ((m : Int)).toNat = m := by omega
          exact ⟨by rw [e9], Or.inr ⟨by omega, by rw [e9]; exact q5⟩, fun z => by omega⟩
        · have hs2 : wmN M l (m + 1) = wmN M l m := by rw [hs, if_neg (fun z => by rcases z.2 with z | z; exact q z; exact q6 z)]
          rw [hs2, if_neg q6, if_neg q]
          refine ⟨rfl, ?_, fun z => absurd z q⟩
          rcases h1 with h1 | ⟨h1, h5⟩
          · exact absurd h1 q
          · exact Or.inr ⟨by omega, h5⟩
theorem wn_pad {f : Nat → Int} {n : Nat} (h0 : -1001 ≤ (wnN f n).2) : ∀ m, n ≤ m → (∀ k, n ≤ k → k < m → f k = -1001) → wnN f m = wnN f n
  | 0, h, _ => by rw [show n = 0 by omega]
  | m + 1, h, hz => by
    by_cases e : n = m + 1
    · rw [e]
    · have ih := wn_pad h0 m (by omega) (fun k h1 h2 => hz k h1 (by omega))
      rw [wnN_succ, ih, hz m (by omega) (by omega), if_neg (by omega)]
theorem win_eq {C M : St} (hb : RB2 C M) (hc : C 0 0 3 = M 11 0 9) (hm : 0 ≤ M 11 0 9 ∧ M 11 0 9 ≤ 10) (hB : mB M) {l : Nat} (hl : (l : Int) < C 2 0 1) (hl2 : l < 120) :
    winr C l = wmr M l ∧ (wmr M l = -1 ∨ (0 ≤ wmr M l ∧ wmr M l < nM M) ∧ C 7 (wmr M l).toNat l = M 24 0 (10 * l + (wmr M l).toNat)) ∧ (wmr M l = -1 → ∀ k, k < nM M → C 7 k l = -1001) := by
  have hn := nM_le hm
  have hne := nM_eq hm
  obtain ⟨e, h1, h2⟩ := wm_inv hb hB hn hl hl2 (nM M) (Nat.le_refl _)
  have hw : wmr M l = wmN M l (nM M) := rfl
  have h0 : -1001 ≤ (wnN (fun i => C 7 i l) (nM M)).2 := by
    rw [e]
    by_cases q : wmN M l (nM M) = -1
    · rw [if_pos q]; dsimp only; omega
    · rw [if_neg q]
      rcases h1 with h1 | ⟨h1, h5⟩
      · exact absurd h1 q
      · have := hB (10 * l + (wmN M l (nM M)).toNat) (by omega)
        dsimp only
        omega
  have hp := wn_pad h0 10 hn (fun k h3 h4 => (hb.2 k h4 l hl).2 (by omega))
  have ew : winr C l = (wnN (fun i => C 7 i l) (nM M)).1 := by unfold winr; rw [hp]
  rw [ew, e, hw]
  refine ⟨?_, ?_, fun q k hk => ?_⟩
  · by_cases q : wmN M l (nM M) = -1
    · rw [if_pos q, q]
    · rw [if_neg q]
  · rcases h1 with h1 | ⟨h1, h5⟩
    · exact Or.inl h1
    · refine Or.inr ⟨h1, ?_⟩
      have h6 := (hb.2 (wmN M l (nM M)).toNat (by omega) l hl).1
      rw [h6]
      unfold trB
      rw [if_neg h5]
  · have h6 := (hb.2 k (by omega) l hl).1
    rw [h6, h2 q k hk]
    rfl
theorem md_eq {C M : St} (hb : RB2 C M) (hB : mB M) {i : Nat} (hi : i < 10) (h120 : C 2 0 1 ≤ 120) : ∀ L : Nat, (L : Int) ≤ C 2 0 1 → mdN C i L = tdN M i L
  | 0, _ => rfl
  | L + 1, hL => by
    have ih := md_eq hb hB hi h120 L (by omega)
    have h3 := (hb.2 i hi L (by omega)).1
    have h4 := hB (10 * L + i) (by omega)
    have e1 : mdN C i (L + 1) = if C 7 i L ≠ -1001 then mdN C i L + 1 else mdN C i L := rfl
    have e2 : tdN M i (L + 1) = if M 24 0 (10 * L + i) ≠ 5000 then tdN M i L + 1 else tdN M i L := rfl
    rw [e1, e2, ih, h3]
    unfold trB
    by_cases q : M 24 0 (10 * L + i) = 5000
    · rw [if_pos q, if_neg (fun z => z rfl), if_neg (fun z => z q)]
    · rw [if_neg q, if_pos (by omega), if_pos q]
theorem lw_eq {C M : St} (hb : RB2 C M) (hc : C 0 0 3 = M 11 0 9) (hm : 0 ≤ M 11 0 9 ∧ M 11 0 9 ≤ 10) (hB : mB M) {i : Nat} (hi : i < nM M) (h120 : C 2 0 1 ≤ 120) : ∀ L : Nat, (L : Int) ≤ C 2 0 1 → lwN C i L = loN M i L
  | 0, _ => rfl
  | L + 1, hL => by
    have hn := nM_le hm
    have ih := lw_eq hb hc hm hB hi h120 L (by omega)
    have h3 := (hb.2 i (by omega) L (by omega)).1
    have h4 := hB (10 * L + i) (by omega)
    have hw := win_eq hb hc hm hB (l := L) (by omega) (by omega)
    have e1 : lwN C i (L + 1) = if C 7 i L ≠ -1001 then lwN C i L + (if isLw C i L then 1 else 0) else lwN C i L := rfl
    have e2 : loN M i (L + 1) = if M 24 0 (10 * L + i) ≠ 5000 then loN M i L + (if loW M i L then 1 else 0) else loN M i L := rfl
    rw [e1, e2, ih]
    by_cases q : M 24 0 (10 * L + i) = 5000
    · have h5 : C 7 i L = -1001 := by rw [h3, q]; rfl
      rw [if_neg (fun z => z h5), if_neg (fun z => z q)]
    · have h5 : C 7 i L = M 24 0 (10 * L + i) := by rw [h3]; unfold trB; rw [if_neg q]
      rw [if_pos (by omega), if_pos q]
      congr 1
      have hiff : isLw C i L ↔ loW M i L := by
        unfold isLw loW
        rw [hw.1]
        rcases hw.2.1 with h6 | ⟨h6, h7⟩
        · have := hw.2.2 h6 i hi
          omega
        · rw [h7, h5]
          constructor
          · exact fun z => z.2
          · exact fun z => ⟨by omega, z⟩
      by_cases q7 : isLw C i L
      · rw [if_pos q7, if_pos (hiff.mp q7)]
      · rw [if_neg q7, if_neg (fun z => q7 (hiff.mpr z))]
theorem rk_eq {C M : St} (hb : RB2 C M) (hc : C 0 0 3 = M 11 0 9) (hm : 0 ≤ M 11 0 9 ∧ M 11 0 9 ≤ 10) (hB : mB M) {i : Nat} (hi : i < nM M) (h120 : 0 ≤ C 2 0 1 ∧ C 2 0 1 ≤ 120) : rkV C i = mpV M i := by
  have hn := nM_le hm
  have e1 := md_eq hb hB (show i < 10 by omega) h120.2 (C 2 0 1).toNat (by omega)
  have e2 := lw_eq hb hc hm hB hi h120.2 (C 2 0 1).toNat (by omega)
  have e3 : nB M = (C 2 0 1).toNat := by unfold nB; rw [hb.1]
  unfold rkV mpV
  have hiff : poor C i ↔ mpoor M i := by
    unfold poor mpoor
    rw [e3, e1, e2, hb.1]
  by_cases q : poor C i
  · rw [if_pos q, if_pos (hiff.mp q)]
  · rw [if_neg q, if_neg (fun z => q (hiff.mpr z))]
/-- the lots given to the winners -/
theorem aw_eq {C M : St} (hb : RB2 C M) (hR : R2 C M) (hm : 0 ≤ M 11 0 9 ∧ M 11 0 9 ≤ 10) (hB : mB M) (h120 : C 2 0 1 ≤ 120) : ∀ L : Nat, (L : Int) ≤ C 2 0 1 → (awN C L).2 = (awM M L).2 ∧ R2 (awN C L).1 (awM M L).1 ∧ ∀ i, i < 10 → (C 4 i 11 ≤ (awN C L).1 4 i 11 ∧ (awN C L).1 4 i 11 ≤ C 4 i 11 + L)
  | 0, _ => ⟨rfl, hR, fun i hi => ⟨Int.le_refl _, by show C 4 i 11 ≤ C 4 i 11 + 0; omega⟩⟩
  | L + 1, hL => by
    obtain ⟨e, h2, h3⟩ := aw_eq hb hR hm hB h120 L (by omega)
    have hn := nM_le hm
    have hw := win_eq hb hR.1 hm hB (l := L) (by omega) (by omega)
    rw [awN_succ, awM_succ, hw.1]
    rcases hw.2.1 with h6 | ⟨h6, h7⟩
    · rw [if_pos h6, if_pos h6]
      refine ⟨by dsimp only; rw [e], h2, fun i hi => ?_⟩
      have := h3 i hi
      dsimp only
      omega
    · have h8 : ¬ wmr M L = -1 := by omega
      rw [if_neg h8, if_neg h8]
      refine ⟨by dsimp only; rw [e, h7]; omega, ⟨h2.1, fun i hi => ?_, fun k hk hc => ?_⟩, fun i hi => ?_⟩
      · have hF := h2.2.1 i hi
        have hF2 := h2.2.1 (wmr M L).toNat (by omega)
        unfold RF2 at hF hF2 ⊢
        by_cases q : i = (wmr M L).toNat
        · rw [← q] at hF2 ⊢
          simp [up3, hF]
        · simp [up3, q, hF]
      · have h9 := h2.2.2 k hk hc
        refine ⟨h9.1, ?_⟩
        show up3 _ 4 _ 11 _ 4 k 12 = 0
        unfold up3
        rw [if_neg (by omega)]
        exact h9.2
      · have h9 := h3 i hi
        by_cases q : i = (wmr M L).toNat
        · have e9 : up3 (awN C L).1 4 (wmr M L).toNat 11 ((awN C L).1 4 (wmr M L).toNat 11 + 1) 4 i 11 = (awN C L).1 4 i 11 + 1 := by rw [q]; simp [up3]
          dsimp only
          rw [e9]
          omega
        · have e9 : up3 (awN C L).1 4 (wmr M L).toNat 11 ((awN C L).1 4 (wmr M L).toNat 11 + 1) 4 i 11 = (awN C L).1 4 i 11 := by simp [up3, q]
          dsimp only
          rw [e9]
          omega
end BIDS
