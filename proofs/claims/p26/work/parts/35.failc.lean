/-! ===== fail: the component's cells ===== -/
section FAILC
theorem fl_4 (S : St) (j i k : Nat) : flS S j 4 i k = if i = j ∧ k = 3 then 2 else if k = 12 ∧ i < cN S then S 4 i 5 else S 4 i k := by
  by_cases q : i = j ∧ k = 3
  · rw [if_pos q]
    exact if_pos ⟨rfl, q⟩
  · rw [if_neg q]
    have e : flS S j 4 i k = fS S 12 (fun i => S 4 i 5) (cN S) 4 i k := (if_neg (fun z => q z.2)).trans (if_neg (fun z => absurd z.1 (by omega)))
    rw [e]
    by_cases q2 : k = 12 ∧ i < cN S
    · rw [if_pos q2]
      exact if_pos ⟨rfl, q2⟩
    · rw [if_neg q2]
      exact if_neg (fun z => q2 z.2)
theorem fl_t {S : St} {j t : Nat} (h0 : t ≠ 0) (h4 : t ≠ 4) : flS S j t = S t := by
  unfold flS
  rw [up3_t h4, up3_t h0]
  funext a c
  exact if_neg (fun z => h4 z.1)
theorem fl_0 {S : St} {j k : Nat} : flS S j 0 0 k = if k = 7 then (j : Int) else S 0 0 k := by
  unfold flS
  rw [up3_t (by omega)]
  by_cases q : k = 7
  · rw [if_pos q, q]
    exact up3_at
  · rw [if_neg q, up3_k q]
    exact if_neg (fun z => absurd z.1 (by omega))
theorem drop_4 (S : St) (i j k : Nat) : dropS S i 4 j k = if j = i ∧ (k = 1 ∨ k = 2) then 0 else S 4 j k := by
  unfold dropS up3
  by_cases q : j = i
  · subst q
    by_cases h1 : k = 1
    · simp [h1]
    · by_cases h2 : k = 2
      · simp [h2]
      · simp [h1, h2]
  · simp [q]
theorem op_t {S : St} {Ln t : Nat} (h2 : t ≠ 2) (h7 : t ≠ 7) : opS S Ln 10 0 t = S t := by
  funext a c
  exact (if_neg (fun z => h7 z.1)).trans (by rw [up3_t h2])
theorem op_7v {S : St} {Ln i k : Nat} (hi : i < 10) : opS S Ln 10 0 7 i k = if k < Ln then -1001 else S 7 i k := by
  by_cases q : k < Ln
  · rw [if_pos q]
    exact if_pos ⟨rfl, Or.inl ⟨hi, q⟩⟩
  · rw [if_neg q]
    have e : opS S Ln 10 0 7 i k = up3 S 2 0 1 Ln 7 i k := if_neg (fun z => by omega)
    rw [e, up3_t (by omega)]
theorem fail_t {S : St} {j t : Nat} {v : Int} (hj : ¬ actv (flS S j) j) (h0 : t ≠ 0) (h2 : t ≠ 2) (h4 : t ≠ 4) (h5 : t ≠ 5) (h7 : t ≠ 7) : failS S j v t = S t := by
  unfold failS movS
  rw [op_t h2 h7]
  dsimp only
  unfold dropS
  rw [up3_t h4, up3_t h4, (mvN_keep hj _).1 t h4 h5, fl_t h0 h4]
theorem fail_0 {S : St} {j k : Nat} {v : Int} (hj : ¬ actv (flS S j) j) : failS S j v 0 0 k = if k = 7 then (j : Int) else S 0 0 k := by
  unfold failS movS
  rw [op_t (by omega) (by omega)]
  dsimp only
  unfold dropS
  rw [up3_t (by omega), up3_t (by omega), (mvN_keep hj _).1 0 (by omega) (by omega), fl_0]
theorem fail_4 {S : St} {j i k : Nat} {v : Int} : failS S j v 4 i k = if i = j ∧ (k = 1 ∨ k = 2) then 0 else (mvN (flS S j) j (flS S j 4 j 1).toNat).1 4 i k := by
  unfold failS movS
  rw [op_t (by omega) (by omega)]
  dsimp only
  rw [drop_4]
theorem fail_5 {S : St} {j : Nat} {v : Int} : failS S j v 5 = (mvN (flS S j) j (flS S j 4 j 1).toNat).1 5 := by
  unfold failS movS
  rw [op_t (by omega) (by omega)]
  dsimp only
  unfold dropS
  rw [up3_t (by omega), up3_t (by omega)]
theorem fail_2 {S : St} {j : Nat} {v : Int} : failS S j v 2 0 1 = ((min (bookN S j v) 120).toNat : Int) := opS_l _ _ _ _
theorem CI_fail {S : St} (hI : CI S) {j : Nat} (hj10 : j < 10) {v : Int} (hv : 1 ≤ v) (hj : ¬ actv (flS S j) j) : CI (failS S j v) := by
  have hM := flS_MI hI j
  have hMj := (hM j hj10).1
  have hmv := mvN_MI hj10 hM (flS S j 4 j 1).toNat (by omega)
  have hA := hI.2.2.2.2.1
  have hP := hI.2.2.2.2.2.1
  refine ⟨by rw [fail_0 hj, if_neg (by omega)]; exact hI.1, by rw [fail_0 hj, if_neg (by omega)]; exact hI.2.1, by rw [fail_0 hj, if_pos rfl]; omega, by rw [fail_0 hj, if_neg (by omega)]; exact hI.2.2.2.1, ⟨by rw [fail_2]; omega, fun i hi k hk => ?_⟩, ?_, fun i hi => ?_⟩
  · have e : failS S j v 7 i k = if k < (min (bookN S j v) 120).toNat then -1001 else (movS (flS S j) j).1 7 i k := op_7v hi
    have e2 : (movS (flS S j) j).1 7 i k = S 7 i k := by
      unfold movS
      dsimp only
      unfold dropS
      rw [up3_t (by omega), up3_t (by omega), (mvN_keep hj _).1 7 (by omega) (by omega), fl_t (by omega) (by omega)]
    rw [e, e2]
    have := hA.2 i hi k hk
    split <;> omega
  · unfold smP
    rw [fail_t hj (by omega) (by omega) (by omega) (by omega) (by omega), fail_t hj (by omega) (by omega) (by omega) (by omega) (by omega), fail_t hj (by omega) (by omega) (by omega) (by omega) (by omega)]
    exact hP
  · have h9 := hmv i hi
    unfold MI at h9 ⊢
    obtain ⟨b1, b2, b3, b4, b5, b6, b7, b8, b9, b10, b11⟩ := h9
    rw [fail_5]
    refine ⟨?_, ?_, ?_, ?_, ?_, ?_, ?_, ?_, ?_, ?_, b11⟩
    all_goals rw [fail_4]
    all_goals split
    all_goals first | assumption | omega
end FAILC
