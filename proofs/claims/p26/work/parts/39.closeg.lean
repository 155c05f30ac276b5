/-! ===== close: awards, and all of it together ===== -/
theorem wn_val (f : Nat → Int) : ∀ m, ((wnN f m).1 = -1 ∧ (wnN f m).2 = -1001) ∨ (0 ≤ (wnN f m).1 ∧ f (wnN f m).1.toNat = (wnN f m).2 ∧ -1001 < (wnN f m).2)
  | 0 => Or.inl ⟨rfl, rfl⟩
  | m + 1 => by
    have ih := wn_val f m
    rw [wnN_succ]
    split
    · rename_i h
      refine Or.inr ⟨by show (0 : Int) ≤ m; omega, ?_, ?_⟩
      · show f ((m : Int).toNat) = f m
        rw [Int.toNat_natCast]
      · show -1001 < f m
        rcases ih with ih | ih <;> omega
    · exact ih
theorem aw_cost (C : St) : ∀ l : Nat, (awN C l).2 ≤ 1000 * l
  | 0 => by show (0 : Int) ≤ 1000 * 0; omega
  | l + 1 => by
    have h := aw_cost C l
    rw [awN_succ]
    split
    · show (awN C l).2 + 1000 ≤ _
      omega
    · rename_i hw
      have hv := wn_val (fun i => C 7 i l) 10
      have e : winr C l = (wnN (fun i => C 7 i l) 10).1 := rfl
      rw [← e] at hv
      show (awN C l).2 - C 7 (winr C l).toNat l ≤ _
      rcases hv with hv | hv
      · exact absurd hv.1 hw
      · have : C 7 (winr C l).toNat l = (wnN (fun i => C 7 i l) 10).2 := hv.2.1
        omega
theorem aw_won {C : St} (hA : smA C) : ∀ l : Nat, l ≤ 120 → (∀ j, C 4 j 11 ≤ (awN C l).1 4 j 11) ∧ smN (fun j => (awN C l).1 4 j 11) 10 ≤ smN (fun j => C 4 j 11) 10 + l
  | 0, _ => ⟨fun j => Int.le_refl _, by
    show smN (fun j => C 4 j 11) 10 ≤ smN (fun j => C 4 j 11) 10 + ((0 : Nat) : Int)
    omega⟩
  | l + 1, hl => by
    have h := aw_won hA l (by omega)
    have hw := winr_rng hA (show l < 120 by omega)
    rw [awN_succ]
    split
    · refine ⟨h.1, ?_⟩
      show smN (fun j => (awN C l).1 4 j 11) 10 ≤ _
      omega
    · have e : ∀ j, up3 (awN C l).1 4 (winr C l).toNat 11 ((awN C l).1 4 (winr C l).toNat 11 + 1) 4 j 11 = if j = (winr C l).toNat then (awN C l).1 4 (winr C l).toNat 11 + 1 else (awN C l).1 4 j 11 := fun j => by simp [up3]
      refine ⟨fun j => ?_, ?_⟩
      · have h1 := h.1 j
        show C 4 j 11 ≤ up3 (awN C l).1 4 (winr C l).toNat 11 ((awN C l).1 4 (winr C l).toNat 11 + 1) 4 j 11
        rw [e]
        split
        · rename_i q
          rw [← q]
          omega
        · exact h1
      · have e2 : smN (fun j => up3 (awN C l).1 4 (winr C l).toNat 11 ((awN C l).1 4 (winr C l).toNat 11 + 1) 4 j 11) 10 = smN (fun j => (awN C l).1 4 j 11) 10 + 1 := smN_upd (j := (winr C l).toNat) (by omega) (fun k hk => by
          show up3 (awN C l).1 4 (winr C l).toNat 11 ((awN C l).1 4 (winr C l).toNat 11 + 1) 4 k 11 = (awN C l).1 4 k 11
          rw [e, if_neg hk]) (by
          show up3 (awN C l).1 4 (winr C l).toNat 11 ((awN C l).1 4 (winr C l).toNat 11 + 1) 4 (winr C l).toNat 11 = (awN C l).1 4 (winr C l).toNat 11 + 1
          rw [e, if_pos rfl])
        show smN (fun j => up3 (awN C l).1 4 (winr C l).toNat 11 ((awN C l).1 4 (winr C l).toNat 11 + 1) 4 j 11) 10 ≤ _
        omega
section CLOSEG
variable {t f : Nat} {b : Int} {C : St}
theorem cl1_t {t' : Nat} (h0 : t' ≠ 0) (h4 : t' ≠ 4) : cl1 C t' = C t' := by
  have e : cl1 C t' = up3 (awN C (C 2 0 1).toNat).1 0 0 5 (max 0 (awN C (C 2 0 1).toNat).2) t' := by
    funext u v
    exact if_neg (fun z => h4 z.1)
  rw [e, up3_t h0, (awN_keep C _).1 t' h4]
theorem cl1_0 {k : Nat} (hk : k ≠ 5) : cl1 C 0 0 k = C 0 0 k := by
  have e : cl1 C 0 0 k = up3 (awN C (C 2 0 1).toNat).1 0 0 5 (max 0 (awN C (C 2 0 1).toNat).2) 0 0 k := rfl
  rw [e, up3_k hk, (awN_keep C _).1 0 (by omega)]
theorem cl1_5 : cl1 C 0 0 5 = max 0 (awN C (C 2 0 1).toNat).2 := by
  have e : cl1 C 0 0 5 = up3 (awN C (C 2 0 1).toNat).1 0 0 5 (max 0 (awN C (C 2 0 1).toNat).2) 0 0 5 := rfl
  rw [e, up3_at]
theorem cl1_4 {j k : Nat} (h9 : k ≠ 9) (h11 : k ≠ 11) : cl1 C 4 j k = C 4 j k := by
  rw [cl1_k h9, (awN_keep C _).2 j k h11]
theorem close_all (h : LF t f b C) : ∃ (P Q R : Nat → Int) (pd : Int), (LI (t + 1) (clS C f) ∧ clS C f 0 0 3 = C 0 0 3) ∧
    (clS C f 0 0 6 = C 0 0 6 + (ea4 (cl1 C) f).2 ∧ (0 ≤ clS C f 0 0 5 ∧ clS C f 0 0 5 ≤ 1000000) ∧ clS C f 0 0 5 ≤ 1000 * b ∧ (ea4 (cl1 C) f).2 ≤ clS C f 0 0 5 ∧ 0 ≤ (ea4 (cl1 C) f).2) ∧
    (clS C f 0 0 4 = C 0 0 4 - pd ∧ (0 ≤ pd ∧ pd ≤ C 0 0 4) ∧ (0 < (ea4 (cl1 C) f).2 → pd = C 0 0 4)) ∧
    (∀ j, j < cN C → (clS C f 4 j 10 = C 4 j 10 + Q j ∧ C 4 j 11 ≤ clS C f 4 j 11) ∧ (0 ≤ P j ∧ P j ≤ C 4 j 5) ∧ (0 ≤ Q j ∧ Q j ≤ C 4 j 5) ∧ (0 ≤ R j ∧ R j ≤ C 4 j 7) ∧ (¬ actv C j → P j = 0 ∧ Q j = 0 ∧ R j = 0) ∧
      (C 4 j 3 = 1 → clS C f 4 j 3 = 3 ∧ clS C f 4 j 5 = 0 ∧ clS C f 4 j 4 = 0 ∧ clS C f 4 j 7 = 0 ∧ clS C f 4 j 2 = 0 ∧ Q j ≤ C 4 j 5 / 2) ∧
      (C 4 j 3 = 0 → clS C f 4 j 3 = 0 ∧ clS C f 4 j 5 = C 4 j 5 - P j ∧ clS C f 4 j 7 = C 4 j 7 - R j ∧ (0 < R j → P j = C 4 j 5) ∧ (0 < (ea4 (cl1 C) f).2 → P j = C 4 j 5 ∧ R j = C 4 j 7))) ∧
    pd + smN P (cN C) + smN Q (cN C) + smN R (cN C) = max 0 (clS C f 0 0 5 - (C 4 f 4 + C 4 f 5)) - (ea4 (cl1 C) f).2 ∧
    smN (fun j => clS C f 4 j 11 - C 4 j 11) (cN C) ≤ b ∧
    (clS C f 4 f 3 = 2 ∧ clS C f 4 f 4 = 0 ∧ clS C f 4 f 5 = 0 ∧ clS C f 4 f 7 = 0 ∧ clS C f 4 f 2 = 0) := by
  obtain ⟨hB, h7, hfc, hf3, hsh, hlt, hb⟩ := h
  have hI := hB.ci
  have hcl := cN_le hI
  have hce := cN_eq hI
  have hf10 : f < 10 := by omega
  have hfn : f < cN C := by omega
  have h1 := CI_cl1 hI
  have n1 : cN (cl1 C) = cN C := by unfold cN; rw [cl1_0 (by omega)]
  have z1 : Z8 (cl1 C) := Z8_cong hB.z8 (cl1_t (by omega) (by omega)) (cl1_0 (by omega))
  have hA := hI.2.2.2.2.1
  have hA1 := hA.1
  have hco := aw_cost C (C 2 0 1).toNat
  have hwo := aw_won hA (C 2 0 1).toNat (by omega)
  have hokl := (ea_ok h1 hf10).2.2.2.2
  obtain ⟨P, Q, R, ⟨c4, z4, n4⟩, he, hk, ⟨hcap, h0k⟩, hp, hsum, hl, hpd, hpd2⟩ := ea_all h1 z1 hf10
  rw [n1] at n4 he hp hsum
  have x0 : ∀ k, clS C f 0 0 k = if k = 7 then -1 else cl2 C f 0 0 k := fun k => cls_0
  have x0k : ∀ k, k ≠ 4 → k ≠ 5 → k ≠ 6 → k ≠ 7 → clS C f 0 0 k = C 0 0 k := fun k a4 a5 a6 a7 => by
    rw [x0, if_neg a7]
    show up3 (ea4 (cl1 C) f).1 0 0 6 ((ea4 (cl1 C) f).1 0 0 6 + (ea4 (cl1 C) f).2) 0 0 k = _
    rw [up3_k a6, h0k k a4, cl1_0 a5]
  have x06 : clS C f 0 0 6 = C 0 0 6 + (ea4 (cl1 C) f).2 := by
    rw [x0, if_neg (by omega)]
    show up3 (ea4 (cl1 C) f).1 0 0 6 ((ea4 (cl1 C) f).1 0 0 6 + (ea4 (cl1 C) f).2) 0 0 6 = _
    rw [up3_at, h0k 6 (by omega), cl1_0 (by omega)]
  have x05 : clS C f 0 0 5 = max 0 (awN C (C 2 0 1).toNat).2 := by
    rw [x0, if_neg (by omega)]
    show up3 (ea4 (cl1 C) f).1 0 0 6 ((ea4 (cl1 C) f).1 0 0 6 + (ea4 (cl1 C) f).2) 0 0 5 = _
    rw [up3_k (by omega), h0k 5 (by omega), cl1_5]
  have x04 : clS C f 0 0 4 = C 0 0 4 - pd3 (cl1 C) f := by
    rw [x0, if_neg (by omega)]
    show up3 (ea4 (cl1 C) f).1 0 0 6 ((ea4 (cl1 C) f).1 0 0 6 + (ea4 (cl1 C) f).2) 0 0 4 = _
    rw [up3_k (by omega), hcap, cl1_0 (by omega)]
  have x4 := fun j k => cls_4 (S := C) (i := f) hf3 j k
  have y4 : ∀ j k, cl2 C f 4 j k = (ea4 (cl1 C) f).1 4 j k := fun j k => cl2_k
  have yk : ∀ j k, k ≠ 5 → k ≠ 7 → k ≠ 9 → k ≠ 10 → k ≠ 11 → cl2 C f 4 j k = C 4 j k := fun j k a b c d e => by rw [y4, hk j k a b d, cl1_4 c e]
  have x12 : clS C f 12 = C 12 := cls_t (by omega) (by omega) (by omega) (by omega) (by omega)
  have x5 : clS C f 5 = C 5 := cls_t (by omega) (by omega) (by omega) (by omega) (by omega)
  have x8 : Z8 (clS C f) := by
    refine fun k hk9 hc => ?_
    rw [x0k 3 (by omega) (by omega) (by omega) (by omega)] at hc
    rw [cls_89 (t := 8) (by omega) (by omega)]
    show (ea4 (cl1 C) f).1 8 0 k = 0
    exact z4 k hk9 (by rw [h0k 3 (by omega), cl1_0 (by omega)]; exact hc)
  have hloss : clS C f 0 0 5 = cl1 C 0 0 5 := by rw [x05, cl1_5]
  have hl5 := h1.2.2.2.1
  have hmf := hI.mem hf10
  unfold MI at hmf
  have hrest : lf3 (cl1 C) f = max 0 (clS C f 0 0 5 - (C 4 f 4 + C 4 f 5)) := by
    unfold lf3
    rw [cl1_4 (by omega) (by omega), cl1_4 (by omega) (by omega), ← hloss]
    omega
  have hfz : ∀ k, zf5 k → clS C f 4 f k = 0 := fun k hz => by
    rw [x4, if_neg (by omega), if_pos ⟨rfl, hz⟩]
  have g11 : ∀ j, clS C f 4 j 11 = (awN C (C 2 0 1).toNat).1 4 j 11 := fun j => by
    have e : clS C f 4 j 11 = cl2 C f 4 j 11 := by
      rw [x4]
      split
      · rw [if_neg (by omega), if_neg (by unfold zf5; omega)]
      · rw [if_neg (fun z => by have := z.2; unfold zf5 at this; omega)]
    rw [e, cl2_11, cl1_k (by omega)]
  refine ⟨P, Q, R, pd3 (cl1 C) f, ⟨⟨⟨CI_cls hI hf10 hf3, fun i hi => ?_, x8, fun k hk9 hc => ?_, fun i hi => ?_, ?_⟩, ?_⟩, x0k 3 (by omega) (by omega) (by omega) (by omega)⟩, ⟨x06, by rw [hloss]; omega, by rw [x05]; omega, by omega, hl.1⟩, ⟨x04, by rw [cl1_0 (by omega)] at hpd; exact hpd, fun q => by rw [hpd2 q, cl1_0 (by omega)]⟩, fun j hj => ?_, by rw [← hrest]; exact hsum, ?_, ?_, hfz 4 (by unfold zf5; omega), hfz 5 (by unfold zf5; omega), hfz 7 (by unfold zf5; omega), hfz 2 (by unfold zf5; omega)⟩
  · rw [x5]
    by_cases q : i < cN C ∧ C 4 i 3 = 1
    · have w1 : clS C f 4 i 1 = 0 := by rw [x4, if_pos q, if_neg (by omega), if_pos (by unfold zf5; omega)]
      have w2 : clS C f 4 i 2 = 0 := by rw [x4, if_pos q, if_neg (by omega), if_pos (by unfold zf5; omega)]
      rw [w1, w2]
      exact ⟨Int.le_refl _, rfl, fun k hk => by omega⟩
    · by_cases q2 : i = f
      · have w1 : clS C f 4 i 1 = 0 := by rw [x4, if_neg q, if_pos ⟨q2, by unfold zf5; omega⟩]
        have w2 : clS C f 4 i 2 = 0 := by rw [x4, if_neg q, if_pos ⟨q2, by unfold zf5; omega⟩]
        rw [w1, w2]
        exact ⟨Int.le_refl _, rfl, fun k hk => by omega⟩
      · have w1 : clS C f 4 i 1 = C 4 i 1 := by rw [x4, if_neg q, if_neg (fun z => q2 z.1), yk i 1 (by omega) (by omega) (by omega) (by omega) (by omega)]
        have w2 : clS C f 4 i 2 = C 4 i 2 := by rw [x4, if_neg q, if_neg (fun z => q2 z.1), yk i 2 (by omega) (by omega) (by omega) (by omega) (by omega)]
        rw [w1, w2]
        exact hB.cl i hi
  · rw [x0k 3 (by omega) (by omega) (by omega) (by omega)] at hc
    have e : clS C f 4 k 6 = C 4 k 6 := by
      rw [x4]
      split
      · rw [if_neg (by omega), if_neg (by unfold zf5; omega), yk k 6 (by omega) (by omega) (by omega) (by omega) (by omega)]
      · rw [if_neg (fun z => by have := z.2; unfold zf5 at this; omega), yk k 6 (by omega) (by omega) (by omega) (by omega) (by omega)]
    rw [x12, e]
    exact hB.rm k hk9 hc
  · have e : clS C f 4 i 10 = cl2 C f 4 i 10 := by
      rw [x4]
      split
      · rw [if_neg (by omega), if_neg (by unfold zf5; omega)]
      · rw [if_neg (fun z => by have := z.2; unfold zf5 at this; omega)]
    have h10 := cl2_10 hI hf10 hi
    have hbd := hB.bd.1 i hi
    rw [e]
    omega
  · have hbd := hB.bd.2
    rw [x06]
    omega
  · rw [x0, if_pos rfl]
  · have hj10 : j < 10 := by omega
    have hpj := hp j hj
    have hej := he j hj
    have hs := hsh j hj
    have a1 : actv (cl1 C) j ↔ actv C j := by unfold actv; rw [cl1_4 (by omega) (by omega)]
    rw [cl1_4 (j := j) (k := 5) (by omega) (by omega), cl1_4 (j := j) (k := 7) (by omega) (by omega), cl1_4 (j := j) (k := 12) (by omega) (by omega), cl1_4 (j := j) (k := 3) (by omega) (by omega), a1, hs] at hpj
    rw [cl1_4 (j := j) (k := 5) (by omega) (by omega), cl1_4 (j := j) (k := 7) (by omega) (by omega), cl1_4 (j := j) (k := 10) (by omega) (by omega)] at hej
    have e10 : clS C f 4 j 10 = C 4 j 10 + Q j := by
      rw [x4]
      split
      · rw [if_neg (by omega), if_neg (by unfold zf5; omega), y4, hej.2.1]
      · rw [if_neg (fun z => by have := z.2; unfold zf5 at this; omega), y4, hej.2.1]
    refine ⟨⟨e10, by rw [g11]; exact hwo.1 j⟩, hpj.1, ⟨hpj.2.1.1, hpj.2.1.2.1⟩, hpj.2.2.1, hpj.2.2.2.1, fun q => ?_, fun q => ?_⟩
    · refine ⟨?_, ?_, ?_, ?_, ?_, hpj.2.1.2.2 q⟩
      · rw [x4, if_pos ⟨hj, q⟩, if_pos rfl]
      · rw [x4, if_pos ⟨hj, q⟩, if_neg (by omega), if_pos (by unfold zf5; omega)]
      · rw [x4, if_pos ⟨hj, q⟩, if_neg (by omega), if_pos (by unfold zf5; omega)]
      · rw [x4, if_pos ⟨hj, q⟩, if_neg (by omega), if_pos (by unfold zf5; omega)]
      · rw [x4, if_pos ⟨hj, q⟩, if_neg (by omega), if_pos (by unfold zf5; omega)]
    · have hjf : ¬ j = f := fun z => by rw [z, hf3] at q; omega
      have e : ∀ k, clS C f 4 j k = cl2 C f 4 j k := fun k => by rw [x4, if_neg (by omega), if_neg (fun z => hjf z.1)]
      refine ⟨by rw [e, yk j 3 (by omega) (by omega) (by omega) (by omega) (by omega)]; exact q, by rw [e, y4]; exact hej.1, by rw [e, y4]; exact hej.2.2, hpj.2.2.2.2.1, fun ql => hpj.2.2.2.2.2 ql (Or.inl q)⟩
  · have e0 : smN (fun j => clS C f 4 j 11 - C 4 j 11) (cN C) ≤ smN (fun j => clS C f 4 j 11 - C 4 j 11) 10 := by
      have hm : ∀ r n : Nat, n + r = 10 → smN (fun j => clS C f 4 j 11 - C 4 j 11) n ≤ smN (fun j => clS C f 4 j 11 - C 4 j 11) 10 := by
        intro r
        induction r with
        | zero => intro n hn; rw [show n = 10 by omega]; exact Int.le_refl _
        | succ r ih =>
          intro n hn
          have h2 := ih (n + 1) (by omega)
          have h3 : smN (fun j => clS C f 4 j 11 - C 4 j 11) (n + 1) = smN (fun j => clS C f 4 j 11 - C 4 j 11) n + (clS C f 4 n 11 - C 4 n 11) := rfl
          have h4 := hwo.1 n
          rw [← g11] at h4
          omega
      exact hm (10 - cN C) (cN C) (by omega)
    have e1 : smN (fun j => clS C f 4 j 11 - C 4 j 11) 10 + smN (fun j => C 4 j 11) 10 = smN (fun j => clS C f 4 j 11) 10 := by
      rw [← smN_add]
      exact smN_cong (fun k hk => by omega)
    have e2 : smN (fun j => clS C f 4 j 11) 10 = smN (fun j => (awN C (C 2 0 1).toNat).1 4 j 11) 10 := smN_cong (fun k _ => g11 k)
    have e3 := hwo.2
    omega
  · rw [x4, if_neg (by omega), if_neg (fun z => by have := z.2; unfold zf5 at this; omega), yk f 3 (by omega) (by omega) (by omega) (by omega) (by omega)]
    exact hf3
end CLOSEG
