/-! ===== close: two sides ===== -/
section CL2
theorem mI_cong {S M : St} (hT : ∀ t, 12 ≤ t → t < 29 → M t = S t) (h11 : ∀ c, c ≠ 25 → M 11 0 c = S 11 0 c) (h : mI S) : mI M := by
  unfold mI mN mR mO mB mP at h ⊢
  rw [hT 12 (by omega) (by omega), hT 13 (by omega) (by omega), hT 14 (by omega) (by omega), hT 15 (by omega) (by omega), hT 16 (by omega) (by omega), hT 17 (by omega) (by omega), hT 18 (by omega) (by omega), hT 25 (by omega) (by omega), hT 21 (by omega) (by omega), hT 22 (by omega) (by omega), hT 23 (by omega) (by omega), hT 24 (by omega) (by omega), hT 26 (by omega) (by omega), hT 27 (by omega) (by omega), hT 28 (by omega) (by omega), h11 9 (by omega), h11 13 (by omega), h11 14 (by omega), h11 15 (by omega), h11 18 (by omega), h11 19 (by omega)]
  exact h
theorem R2_cong {S M : St} (hT : ∀ t, 12 ≤ t → t < 29 → M t = S t) (h11 : ∀ c, c ≠ 25 → M 11 0 c = S 11 0 c) {C : St} (h : R2 C S) : R2 C M := by
  refine ⟨by rw [h11 9 (by omega)]; exact h.1, fun i hi => ?_, h.2.2⟩
  have hF := h.2.1 i hi
  unfold RF2 at hF ⊢
  rw [hT 12 (by omega) (by omega), hT 13 (by omega) (by omega), hT 14 (by omega) (by omega), hT 15 (by omega) (by omega), hT 16 (by omega) (by omega), hT 17 (by omega) (by omega), hT 18 (by omega) (by omega), hT 19 (by omega) (by omega), hT 20 (by omega) (by omega), hT 25 (by omega) (by omega)]
  exact hF
theorem CI_cong {S M : St} (hT : ∀ t, t < 11 → M t = S t) (h : CI S) : CI M := by
  unfold CI smA smP MI at h ⊢
  rw [hT 0 (by omega), hT 2 (by omega), hT 4 (by omega), hT 5 (by omega), hT 7 (by omega), hT 8 (by omega), hT 9 (by omega), hT 10 (by omega)]
  exact h
theorem as_10 {C : St} (hc : CI C) {a : Int} (ha : 0 ≤ a ∧ a ≤ 100000000) {j : Nat} (hj : j < 10) : C 4 j 10 ≤ (eaAs C a).1 4 j 10 ∧ (eaAs C a).1 4 j 10 ≤ C 4 j 10 + 2000000 := by
  have hw := asW_ok hc
  have hp := partR_ok (po := C 10 0) (okW_ent (l := cN C) hc.2.2.2.2.2.1 hw ha)
  have e : (eaAs C a).1 4 j 10 = if 10 = 10 ∧ j < cN C then C 4 j 10 + (prS C (asW C) (asB C) a).1 j else C 4 j 10 := eat_4 C (asW C) (asB C) a 10 (fun i => C 4 i 10 + (prS C (asW C) (asB C) a).1 i) j 10
  rw [e]
  by_cases q : j < cN C
  · rw [if_pos ⟨rfl, q⟩]
    have h1 := hp.1 j hj
    have e9 : entS C (asW C) (asB C) (cN C) 9 0 j = asB C j := by
      show (if (0 : Nat) = 0 ∧ j < cN C then asB C j else C 9 0 j) = _
      rw [if_pos ⟨rfl, q⟩]
    rw [e9] at h1
    have hm := hc.mem hj
    have hm12 := hm.2.2.2.2.2.2.2.2.2.1
    have hb : asB C j ≤ 2000000 := by
      unfold asB asW
      split <;> split <;> omega
    have h2 : 0 ≤ (prS C (asW C) (asB C) a).1 j ∧ (prS C (asW C) (asB C) a).1 j ≤ asB C j := h1
    omega
  · rw [if_neg (fun z => q z.2)]
    omega
theorem eaSh_k {C : St} {a j : Int} {i k : Nat} (hk : k ≠ 5) : (eaSh C a j).1 4 i k = C 4 i k := (eat_4 C (shW C j) (fun i => C 4 i 5) a 5 (fun i => C 4 i 5 - (prS C (shW C j) (fun i => C 4 i 5) a).1 i) i k).trans (if_neg (fun z => hk z.1))
theorem eaAs_k {C : St} {a : Int} {i k : Nat} (hk : k ≠ 10) : (eaAs C a).1 4 i k = C 4 i k := (eat_4 C (asW C) (asB C) a 10 (fun i => C 4 i 10 + (prS C (asW C) (asB C) a).1 i) i k).trans (if_neg (fun z => hk z.1))
theorem eaGn_k {C : St} {a : Int} {i k : Nat} (hk : k ≠ 7) : (eaGn C a).1 4 i k = C 4 i k := (eat_4 C (gnW C) (fun i => C 4 i 7) a 7 (fun i => C 4 i 7 - (prS C (gnW C) (fun i => C 4 i 7) a).1 i) i k).trans (if_neg (fun z => hk z.1))
theorem ea0_k {C : St} {i j k : Nat} : (ea0 C i).1 4 j k = C 4 j k := by
  show up3 C 0 0 4 (C 0 0 4 - pd3 C i) 4 j k = _
  unfold up3
  rw [if_neg (fun z => absurd z.1 (by omega))]
theorem cl2_k {C : St} {i j k : Nat} : cl2 C i 4 j k = (ea4 (cl1 C) i).1 4 j k := by
  show up3 (ea4 (cl1 C) i).1 0 0 6 ((ea4 (cl1 C) i).1 0 0 6 + (ea4 (cl1 C) i).2) 4 j k = _
  unfold up3
  rw [if_neg (fun z => absurd z.1 (by omega))]
theorem cl1_k {C : St} {j k : Nat} (hk : k ≠ 9) : cl1 C 4 j k = (awN C (C 2 0 1).toNat).1 4 j k := by
  have e : cl1 C 4 j k = up3 (awN C (C 2 0 1).toNat).1 0 0 5 (max 0 (awN C (C 2 0 1).toNat).2) 4 j k := if_neg (fun z => hk z.2.1)
  rw [e]
  unfold up3
  rw [if_neg (fun z => absurd z.1 (by omega))]
theorem cl2_10 {C : St} (hc : CI C) {i : Nat} (hi : i < 10) {j : Nat} (hj : j < 10) : C 4 j 10 ≤ cl2 C i 4 j 10 ∧ cl2 C i 4 j 10 ≤ C 4 j 10 + 2000000 := by
  have h1 := CI_cl1 hc
  have co := ea_ok h1 hi
  have ha := as_10 (C := (ea2 (cl1 C) i).1) co.2.1.1 (a := (ea2 (cl1 C) i).2) (by omega) hj
  have g2 : (ea2 (cl1 C) i).1 4 j 10 = (ea1 (cl1 C) i).1 4 j 10 := eaSh_k (by omega)
  have g1 : (ea1 (cl1 C) i).1 4 j 10 = (ea0 (cl1 C) i).1 4 j 10 := eaSh_k (by omega)
  have g4 : (ea4 (cl1 C) i).1 4 j 10 = (ea3 (cl1 C) i).1 4 j 10 := eaGn_k (by omega)
  have g3 : (ea3 (cl1 C) i).1 = (eaAs (ea2 (cl1 C) i).1 (ea2 (cl1 C) i).2).1 := by unfold ea3; rfl
  rw [cl2_k, g4, g3]
  rw [g2, g1, ea0_k, cl1_k (by omega), (awN_keep C (C 2 0 1).toNat).2 j 10 (by omega)] at ha
  exact ha
theorem cl2_11 {C : St} {i j : Nat} : cl2 C i 4 j 11 = cl1 C 4 j 11 := by
  have g4 : (ea4 (cl1 C) i).1 4 j 11 = (ea3 (cl1 C) i).1 4 j 11 := eaGn_k (by omega)
  have g3 : (ea3 (cl1 C) i).1 4 j 11 = (ea2 (cl1 C) i).1 4 j 11 := eaAs_k (by omega)
  have g2 : (ea2 (cl1 C) i).1 4 j 11 = (ea1 (cl1 C) i).1 4 j 11 := eaSh_k (by omega)
  have g1 : (ea1 (cl1 C) i).1 4 j 11 = (ea0 (cl1 C) i).1 4 j 11 := eaSh_k (by omega)
  rw [cl2_k, g4, g3, g2, g1, ea0_k]
abbrev zf5 (k : Nat) : Prop := k = 1 ∨ k = 2 ∨ k = 4 ∨ k = 5 ∨ k = 7
theorem cls_4 {S : St} {i : Nat} (h2 : S 4 i 3 = 2) (j k : Nat) : clS S i 4 j k = if j < cN S ∧ S 4 j 3 = 1 then (if k = 3 then 3 else if zf5 k then 0 else cl2 S i 4 j k) else if j = i ∧ zf5 k then 0 else cl2 S i 4 j k := by
  have hk := (KP_cl2 S i).1
  have hn : cN (cl2 S i) = cN S := by unfold cN; rw [hk.2.2 3 (by omega) (by omega) (by omega)]
  have e3 : loseS (cl2 S i) i 4 j 3 = S 4 j 3 := by rw [lose_4, if_neg (by omega), hk.1 j 3 (by omega) (by omega) (by omega) (by omega) (by omega)]
  have e : clS S i 4 j k = enN (loseS (cl2 S i) i) (cN (cl2 S i)) 4 j k := rfl
  rw [e, enN_4, hn, e3, lose_4]
  by_cases q : j < cN S ∧ S 4 j 3 = 1
  · rw [if_pos q, if_pos q]
    have hji : j ≠ i := fun z => by rw [z, h2] at q; omega
    by_cases k3 : k = 3
    · rw [if_pos k3, if_pos k3]
    · rw [if_neg k3, if_neg k3]
      by_cases z5 : zf5 k
      · rw [if_pos z5, if_pos z5]
      · rw [if_neg z5, if_neg z5, if_neg (fun z => hji z.1)]
  · rw [if_neg q, if_neg q]
theorem cls_t {S : St} {i t : Nat} (h0 : t ≠ 0) (h4 : t ≠ 4) (h8 : t ≠ 8) (h9 : t ≠ 9) (h10 : t ≠ 10) : clS S i t = S t := by
  have hk := (KP_cl2 S i).1
  rw [← hk.2.1 t h0 h4 h8 h9 h10]
  have e : clS S i t = enN (loseS (cl2 S i) i) (cN (cl2 S i)) t := by
    funext u v
    show up3 _ 0 0 7 (-1) t u v = _
    unfold up3
    rw [if_neg (fun z => h0 z.1)]
  rw [e, (enN_keep _ _).1 t h4]
  funext u v
  simp [loseS, dropS, up3, h4]
theorem cls_89 {S : St} {i t : Nat} (h0 : t ≠ 0) (h4 : t ≠ 4) : clS S i t = cl2 S i t := by
  have e : clS S i t = enN (loseS (cl2 S i) i) (cN (cl2 S i)) t := by
    funext u v
    show up3 _ 0 0 7 (-1) t u v = _
    unfold up3
    rw [if_neg (fun z => h0 z.1)]
  rw [e, (enN_keep _ _).1 t h4]
  funext u v
  simp [loseS, dropS, up3, h4]
theorem cls_0 {S : St} {i k : Nat} : clS S i 0 0 k = if k = 7 then -1 else cl2 S i 0 0 k := by
  show up3 _ 0 0 7 (-1) 0 0 k = _
  unfold up3
  by_cases q : k = 7
  · rw [if_pos ⟨rfl, rfl, q⟩, if_pos q]
  · rw [if_neg (fun z => q z.2.2), if_neg q, (enN_keep _ _).1 0 (by omega)]
    rfl
theorem CI_cls {S : St} (hc : CI S) {i : Nat} (hi : i < 10) (h2 : S 4 i 3 = 2) : CI (clS S i) := by
  have h1 := CI_cl1 hc
  have co := (ea_ok h1 hi).2.2.2
  have hX : CI (cl2 S i) := CI_00 co.1 (Or.inr (Or.inr rfl))
  obtain ⟨a1, a2, a3, a4, a5, a6, a7⟩ := hX
  refine ⟨by rw [cls_0, if_neg (by omega)]; exact a1, by rw [cls_0, if_neg (by omega)]; exact a2, by rw [cls_0, if_pos rfl]; omega, by rw [cls_0, if_neg (by omega)]; exact a4, ?_, ?_, fun j hj => ?_⟩
  · unfold smA
    rw [cls_89 (t := 2) (by omega) (by omega), cls_89 (t := 7) (by omega) (by omega)]
    exact a5
  · unfold smP
    rw [cls_89 (t := 8) (by omega) (by omega), cls_89 (t := 9) (by omega) (by omega), cls_89 (t := 10) (by omega) (by omega)]
    exact a6
  · have hm := a7 j hj
    unfold MI at hm ⊢
    obtain ⟨b1, b2, b3, b4, b5, b6, b7, b8, b9, b10, b11⟩ := hm
    rw [cls_89 (t := 5) (by omega) (by omega)]
    refine ⟨?_, ?_, ?_, ?_, ?_, ?_, ?_, ?_, ?_, ?_, b11⟩
    all_goals rw [cls_4 h2]; by_cases q : j < cN S ∧ S 4 j 3 = 1
    all_goals first | (rw [if_pos q]; simp [zf5]; done) | (rw [if_pos q]; simp only [zf5, Nat.reduceEqDiff, or_self, or_false, or_true, if_true, if_false, false_or]; first | assumption | omega) | (rw [if_neg q]; simp only [zf5, Nat.reduceEqDiff, or_self, or_false, or_true, and_true, and_false, if_true, if_false, false_or]; first | assumption | (split <;> omega))
end CL2
