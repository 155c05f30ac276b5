/-! ===== the two partings give alike: the theorem ===== -/
section PEQ2
variable {w b W B : Nat → Int}
theorem sm_pad {f : Nat → Int} {n : Nat} : ∀ m, n ≤ m → (∀ k, n ≤ k → k < m → f k = 0) → smN f m = smN f n
  | 0, h, _ => by rw [show n = 0 by omega]
  | m + 1, h, hz => by
    by_cases e : n = m + 1
    · rw [e]
    · show smN f m + f m = _
      rw [sm_pad m (by omega) (fun k h1 h2 => hz k h1 (by omega)), hz m (by omega) (by omega)]
      omega
theorem p0m_facts {n : Nat} {po : Nat → Int} {g : Int} (h : okV w b n g) (hs : 0 < smN w n) : (∀ k, k < n → 0 ≤ p0m w b po g n k ∧ p0m w b po g n k ≤ b k) ∧ (0 ≤ smN (p0m w b po g n) n ∧ smN (p0m w b po g n) n ≤ g) ∧ (∀ k, k < n → ¬ 0 < w k → p0m w b po g n k = 0) ∧ (∀ k, k < n → p0m w b po g n k = min (g * w k / smN w n) (b k)) := by
  have e : ∀ k, k < n → p0m w b po g n k = min (g * w k / smN w n) (b k) := fun k hk => by unfold p0m; rw [if_pos hk]
  have h1 : smN (p0m w b po g n) n ≤ smN (fun k => g * w k / smN w n) n := smN_le (fun k hk => by rw [e k hk]; exact Int.min_le_left _ _)
  have h2 := smN_div (w := w) (a := g) hs n
  have h3 : smN (fun k => g * w k / smN w n) n ≤ g := Int.le_of_mul_le_mul_right h2 hs
  have hp : ∀ k, k < n → 0 ≤ p0m w b po g n k ∧ p0m w b po g n k ≤ b k := fun k hk => by
    rw [e k hk]
    have := by_rngM h hs hk
    have h5 := h.1 k hk
    omega
  have h4 : 0 ≤ smN (p0m w b po g n) n := (smN_nn (B := 100000000) (fun k hk => by have := hp k hk; have := (h.1 k hk).2; omega)).1
  refine ⟨hp, ⟨h4, by omega⟩, fun k hk hw => ?_, e⟩
  rw [e k hk]
  have h5 := h.1 k hk
  have hz : w k = 0 := by omega
  rw [hz, Int.mul_zero, Int.zero_ediv]
  omega
theorem peq {n : Nat} (hn : n ≤ 10) (h : ∀ k, k < n → W k = w k ∧ B k = b k) (hz : ∀ k, n ≤ k → k < 10 → W k = 0 ∧ 0 ≤ B k) {a : Int} (hv : okV w b n a) (po po' : Nat → Int) :
    (∀ k, k < n → (partR W B po a).1 k = fnM w b po' n a k) ∧ (partR W B po a).2 = a - gvM w b n a := by
  have hsW : smN W 10 = smN w n := (sm_pad 10 hn (fun k h1 h2 => (hz k h1 h2).1)).trans (smN_cong (fun k hk => (h k hk).1))
  have hzw : ∀ k, n ≤ k → k < 10 → ¬ 0 < W k := fun k h1 h2 => by rw [(hz k h1 h2).1]; omega
  by_cases hs : 0 < smN w n
  · have hY := p0m_facts (po := po') hv hs
    have hX : partR W B po a = strokes W B (p0f W B po a, a - smN (p0f W B po a) 10) 12 := by unfold partR; rw [if_neg (by omega)]
    have e0 : ∀ k, k < n → p0f W B po a k = p0m w b po' a n k := fun k hk => by
      rw [hY.2.2.2 k hk]
      unfold p0f
      rw [if_pos (by omega), hsW, (h k hk).1, (h k hk).2]
    have e1 : smN (p0f W B po a) 10 = smN (p0m w b po' a n) n := (sm_pad 10 hn (fun k h1 h2 => by
      unfold p0f
      have h9 := hz k h1 h2
      rw [if_pos h2, h9.1, Int.mul_zero, Int.zero_ediv]
      omega)).trans (smN_cong e0)
    have hag : ag n (p0f W B po a, a - smN (p0f W B po a) 10) (p0m w b po' a n, a - smN (p0m w b po' a n) n) := ⟨by show a - _ = a - _; rw [e1], e0⟩
    obtain ⟨N, eN, hmu⟩ := strokes12 (w := W) (b := B) (p0f W B po a, a - smN (p0f W B po a) 10)
    have hXY := it_ag hn h hzw hag N
    rw [← eN] at hXY
    have hrX := mu_rest hmu
    have hrY : rest w b n (itN w b n N (p0m w b po' a n, a - smN (p0m w b po' a n) n)) := by
      rcases hrX with q | q
      · exact Or.inl (by rw [← hXY.1]; exact q)
      · refine Or.inr ?_
        rw [tk_pad 10 hn hzw, tk_ag n (fun k hk => ⟨(h k hk).1, (h k hk).2, hXY.2 k hk⟩)] at q
        exact q
    have hlY := rest_left (w := w) (b := b) (x := (p0m w b po' a n, a - smN (p0m w b po' a n) n)) (fun k hk => (hY.1 k hk).2) (by show 0 ≤ a - _; omega) hrY
    have hsY := slk_p0 (b := b) hY.2.2.1 n (Nat.le_refl _)
    dsimp only at hlY
    rw [hsY] at hlY
    rw [hX]
    have hgv : gvM w b n a = min a (allN w b n) := rfl
    refine ⟨fun k hk => ?_, by rw [hXY.1, hlY.1, hgv]; omega⟩
    rw [hXY.2 k hk]
    have hvg := okV_g hv hn
    have hZ := p0m_facts (po := po') hvg hs
    have hZ0 : 0 ≤ gvM w b n a - smN (p0m w b po' (gvM w b n a) n) n := by omega
    have hrZ := it_end (w := w) (b := b) (n := n) (x := (p0m w b po' (gvM w b n a) n, gvM w b n a - smN (p0m w b po' (gvM w b n a) n) n)) hZ0
    have hfn : fnM w b po' n a = (itN w b n (gvM w b n a - smN (p0m w b po' (gvM w b n a) n) n).toNat (p0m w b po' (gvM w b n a) n, gvM w b n a - smN (p0m w b po' (gvM w b n a) n) n)).1 := by
      unfold fnM
      rw [if_pos hs, whM_it]
    rw [hfn]
    by_cases q : a ≤ allN w b n
    · have eg : gvM w b n a = a := by rw [hgv]; omega
      rw [eg] at hrZ ⊢
      rw [itN_uniq (rest_fix hrY) (rest_fix hrZ)]
    · have eg : gvM w b n a = allN w b n := by rw [hgv]; omega
      have hlZ := rest_left (w := w) (b := b) (x := (p0m w b po' (gvM w b n a) n, gvM w b n a - smN (p0m w b po' (gvM w b n a) n) n)) (fun k hk => (hZ.1 k hk).2) hZ0 hrZ
      have hsZ := slk_p0 (b := b) hZ.2.2.1 n (Nat.le_refl _)
      dsimp only at hlZ
      rw [hsZ] at hlZ
      by_cases q2 : 0 < w k
      · rw [hlY.2 (by omega) k hk q2, hlZ.2 (by omega) k hk q2]
      · rw [it_zero q2, it_zero q2]
        show p0m w b po' a n k = p0m w b po' (gvM w b n a) n k
        rw [hY.2.2.1 k hk q2, hZ.2.2.1 k hk q2]
  · have e : partR W B po a = (zf po 10, a) := by unfold partR; rw [if_pos (by omega)]
    have e2 : fnM w b po' n a = zf po' n := by unfold fnM; rw [if_neg hs]
    have hall : allN w b n = 0 := by
      have hw0 : ∀ k, k < n → ¬ 0 < w k := fun k hk q => by
        have := smN_mem (f := w) (fun j hj => (hv.1 j hj).1.1) hk
        omega
      have : allN w b n = smN (fun _ => 0) n := smN_cong (fun k hk => by rw [if_neg (hw0 k hk)])
      rw [this]
      have h0 : ∀ m, smN (fun _ => 0) m = 0 := fun m => by
        induction m with
        | zero => rfl
        | succ m ih => show smN (fun _ => 0) m + 0 = 0; omega
      exact h0 n
    rw [e, e2]
    refine ⟨fun k hk => ?_, ?_⟩
    · show zf po 10 k = zf po' n k
      unfold zf
      rw [if_pos (by omega), if_pos hk]
    · have := hv.2
      show a = a - min a (allN w b n)
      rw [hall]
      omega
/-- bounds that are never reached don't matter -/
theorem gv_ab {n : Nat} {p : Nat → Int} {l a : Int} {b' : Nat → Int} (hab : ∀ k, k < n → a ≤ b k ∧ a ≤ b' k) (hp : ∀ k, k < n → 0 ≤ p k) (hsum : smN p n + l = a) : ∀ m, m ≤ n → gvN w b 1 p l m = gvN w b' 1 p l m ∧ (∀ k, k < n → 0 ≤ (gvN w b 1 p l m).1 k) ∧ smN (gvN w b 1 p l m).1 n + (gvN w b 1 p l m).2 = a
  | 0, _ => ⟨rfl, hp, hsum⟩
  | m + 1, hm => by
    obtain ⟨e, h1, h2⟩ := gv_ab hab hp hsum m (by omega)
    have h3 := smN_mem h1 (show m < n by omega)
    have h4 := hab m (by omega)
    rw [gvN_succ, gvN_succ, ← e]
    by_cases q : ct w b (gvN w b 1 p l m).1 m ∧ 1 ≤ (gvN w b 1 p l m).2
    · rw [if_pos q, if_pos ⟨⟨q.1.1, by have := q.2; omega⟩, q.2⟩]
      refine ⟨rfl, fun k hk => ?_, ?_⟩
      · dsimp only
        unfold updI
        split
        · have := h1 m (by omega)
          omega
        · exact h1 k hk
      · dsimp only
        have e9 := smN_upd (f := updI (gvN w b 1 p l m).1 m ((gvN w b 1 p l m).1 m + 1)) (h := (gvN w b 1 p l m).1) (j := m) (d := 1) (m := n) (by omega) (fun k hk => by unfold updI; rw [if_neg hk]) (by unfold updI; rw [if_pos rfl])
        rw [e9]
        omega
    · rw [if_neg q, if_neg (fun z => q ⟨⟨z.1.1, by have := z.2; omega⟩, z.2⟩)]
      exact ⟨rfl, h1, h2⟩
theorem it_ab {n : Nat} {x : (Nat → Int) × Int} {a : Int} {b' : Nat → Int} (hab : ∀ k, k < n → a ≤ b k ∧ a ≤ b' k) (hp : ∀ k, k < n → 0 ≤ x.1 k) (hsum : smN x.1 n + x.2 = a) : ∀ f, itN w b n f x = itN w b' n f x ∧ (∀ k, k < n → 0 ≤ (itN w b n f x).1 k) ∧ smN (itN w b n f x).1 n + (itN w b n f x).2 = a
  | 0 => ⟨rfl, hp, hsum⟩
  | f + 1 => by
    obtain ⟨e, h1, h2⟩ := it_ab hab hp hsum f
    have h3 := gv_ab (w := w) hab h1 h2 n (Nat.le_refl _)
    refine ⟨?_, h3.2.1, h3.2.2⟩
    show psN w b n (itN w b n f x) = psN w b' n (itN w b' n f x)
    rw [← e]
    exact h3.1
theorem fn_ab {n : Nat} (hn : n ≤ 10) {a : Int} {b' po : Nat → Int} (hv : okV w b n a) (hv' : okV w b' n a) (hab : ∀ k, k < n → a ≤ b k ∧ a ≤ b' k) : fnM w b po n a = fnM w b' po n a := by
  unfold fnM
  by_cases hs : 0 < smN w n
  · rw [if_pos hs, if_pos hs]
    have hall : ∀ c : Nat → Int, okV w c n a → (∀ k, k < n → a ≤ c k) → gvM w c n a = a := fun c hc hac => by
      have hex : ∃ k, k < n ∧ 0 < w k := by
        by_cases q : ∃ k, k < n ∧ 0 < w k
        · exact q
        · exfalso
          have h0 : ∀ m, m ≤ n → smN w m ≤ 0 := fun m => by
            induction m with
            | zero => intro _; exact Int.le_refl _
            | succ m ih =>
              intro hm
              have h1 := ih (by omega)
              have h2 : ¬ 0 < w m := fun z => q ⟨m, by omega, z⟩
              show smN w m + w m ≤ 0
              omega
          have := h0 n (Nat.le_refl _)
          omega
      obtain ⟨k, hk, hw⟩ := hex
      have h1 := smN_mem (f := fun k => if 0 < w k then c k else 0) (m := n) (k := k) (fun j hj => by
        have := (hc.1 j hj).2
        show 0 ≤ if 0 < w j then c j else 0
        split <;> omega) hk
      have h2 : (if 0 < w k then c k else 0) ≤ allN w c n := h1
      rw [if_pos hw] at h2
      have := hac k hk
      unfold gvM
      omega
    rw [hall b hv (fun k hk => (hab k hk).1), hall b' hv' (fun k hk => (hab k hk).2)]
    have hY := p0m_facts (po := po) hv hs
    have hY' := p0m_facts (po := po) hv' hs
    have e0 : p0m w b po a n = p0m w b' po a n := by
      funext k
      by_cases hk : k < n
      · rw [hY.2.2.2 k hk, hY'.2.2.2 k hk]
        have := by_rngM hv hs hk
        have := hab k hk
        omega
      · unfold p0m
        rw [if_neg hk, if_neg hk]
    rw [whM_it, whM_it, ← e0]
    rw [(it_ab (w := w) hab (x := (p0m w b po a n, a - smN (p0m w b po a n) n)) (fun k hk => (hY.1 k hk).1) (by show smN (p0m w b po a n) n + (a - smN (p0m w b po a n) n) = a; omega) _).1]
  · rw [if_neg hs, if_neg hs]
end PEQ2
