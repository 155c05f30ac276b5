/-! ===== the relation kept: a new member, a new client, a bid ===== -/
def jnS (S : St) (j : Nat) (a b c : Int) : St := up3 (up3 (up3 (up3 (up3 (joinS S j a b c) 0 0 3 (j + 1 : Int)) 12 0 j a) 13 0 j b) 14 0 j c) 11 0 9 (j + 1 : Int)
theorem Inv.join {t : Nat} {S : St} (h : Inv t S) {j : Nat} (ej : S 0 0 3 = j) (hj : j < 10) {a b c : Int} (ha : 0 ≤ a ∧ a ≤ 1000000) (hb : 0 ≤ b ∧ b ≤ 1000000) (hc : 0 ≤ c ∧ c ≤ 100) : Inv t (jnS S j a b c) := by
  have hm := h.mi
  have hN := hm.1
  unfold mN at hN
  have e4 : ∀ i k, jnS S j a b c 4 i k = if i = j ∧ k = 6 then c else if i = j ∧ k = 5 then b else if i = j ∧ k = 4 then a else S 4 i k := fun i k => by simp [jnS, joinS, up3]
  have e6 : ∀ i k, k ≠ 4 → k ≠ 5 → k ≠ 6 → jnS S j a b c 4 i k = S 4 i k := fun i k q1 q2 q3 => by simp [e4, q1, q2, q3]
  have hci : CI (jnS S j a b c) := by
    refine ⟨?_, h.ci.2.1, h.ci.2.2.1, h.ci.2.2.2.1, h.ci.2.2.2.2.1, h.ci.2.2.2.2.2.1, fun i hi => ?_⟩
    · show 0 ≤ (j + 1 : Int) ∧ (j + 1 : Int) ≤ 10
      omega
    · have hM := h.ci.mem hi
      unfold MI at hM ⊢
      obtain ⟨a1, a2, a3, a4, a5, a6, a7, a8, a9, a10, a11⟩ := hM
      refine ⟨?_, ?_, ?_, ?_, ?_, ?_, ?_, ?_, ?_, ?_, a11⟩
      all_goals rw [e4]; simp only [Nat.reduceEqDiff, and_false, if_false, and_true]
      all_goals first | assumption | (split <;> omega)
  have hrs : RS (jnS S j a b c) := ⟨rfl, h.rs.2.1, h.rs.2.2.1, h.rs.2.2.2.1, h.rs.2.2.2.2⟩
  have hF : ∀ i, i < 10 → RFi (jnS S j a b c) i := fun i hi => by
    have hf := h.rf hi
    unfold RFi at hf ⊢
    by_cases q : i = j
    · subst q
      simp [jnS, joinS, up3, hf]
    · simp [jnS, joinS, up3, q, hf]
  have hz2 := (h.rz j hj (by omega)).2.2
  refine ⟨hci, mI_of hci hF hrs hN.2.1 hN.2.2.1 hN.2.2.2.2.2 hm.2.2.1 hm.2.2.2.1 hm.2.2.2.2, hrs, hF, fun q => ?_, fun k hk hc9 => ?_, fun i hi => ?_, fun c9 hc9 => ?_, ⟨h.rt.1, h.rt.2.1, h.rt.2.2.1, fun i hi => ?_⟩, fun q => (e6 _ 3 (by omega) (by omega) (by omega)).trans (h.rwf q)⟩
  · have hb9 := h.rb q
    refine ⟨hb9.1, fun i hi l hl => ⟨(hb9.2 i hi l hl).1, fun q9 => (hb9.2 i hi l hl).2 ?_⟩⟩
    have q9' : (j + 1 : Int) ≤ i := q9
    omega
  · have hc' : (j + 1 : Int) ≤ k := hc9
    have hz := h.rz k hk (by omega)
    rw [e6 k 12 (by omega) (by omega) (by omega), e6 k 2 (by omega) (by omega) (by omega)]
    exact hz
  · obtain ⟨s, hs⟩ := h.rc i hi
    refine ⟨s, ?_⟩
    unfold RCi at hs ⊢
    rw [e6 i 1 (by omega) (by omega) (by omega), e6 i 2 (by omega) (by omega) (by omega), e4 i 6]
    refine ⟨⟨hs.1.1, ?_, hs.1.2.2⟩, hs.2⟩
    by_cases q : i = j
    · subst q
      rw [if_pos ⟨rfl, rfl⟩]
      omega
    · rw [if_neg (fun w => q w.1), if_neg (fun w => q w.1), if_neg (fun w => q w.1)]
      exact hs.1.2.1
  · have hx := h.rx c9 hc9
    have hcc := h.cnt
    refine ⟨hx.1, hx.2.1, ?_⟩
    show S 21 0 c9 < (j + 1 : Int)
    omega
  · rw [e6 i 10 (by omega) (by omega) (by omega), e6 i 11 (by omega) (by omega) (by omega)]
    exact h.rt.2.2.2 i hi
def tkS (S : St) (j : Nat) (v : Int) : St := up3 (up3 (up3 (up3 (up3 (takeS S j v) 21 0 (nC S) j) 22 0 (nC S) v) 23 0 (nC S) (S 11 0 13)) 11 0 13 (S 11 0 13 + 1)) 11 0 14 (S 11 0 14 + 1)
theorem Inv.take {t : Nat} {S : St} (h : Inv t S) (ht : t < 512) {j : Nat} (hj : j < 10) (hjc : (j : Int) < S 0 0 3) {v : Int} (hv : 1 ≤ v ∧ v ≤ 20) (htk : v ≤ S 4 j 6 - S 4 j 2) : Inv (t + 1) (tkS S j v) ∧ tkS S j v 4 j 2 = S 4 j 2 + v := by
  have hm := h.mi
  have hN := hm.1
  unfold mN at hN
  have hrt := h.rt
  have hr1 := hrt.1
  have hr2 := hrt.2.1
  obtain ⟨sj, hsj⟩ := h.rc j hj
  have hMj := h.ci.mem hj
  have hc100 : S 4 j 1 < 100 := by unfold MI at hMj; have := hsj.1; omega
  have hcnt0 : 0 ≤ S 4 j 1 := hMj.1.1
  have hn14 : ((nC S : Nat) : Int) = S 11 0 14 := by unfold nC; omega
  have e4 : ∀ i k, tkS S j v 4 i k = if i = j ∧ k = 2 then S 4 j 2 + v else if i = j ∧ k = 1 then S 4 j 1 + 1 else S 4 i k := fun i k => by simp [tkS, takeS, up3]
  have e6 : ∀ i k, k ≠ 1 → k ≠ 2 → tkS S j v 4 i k = S 4 i k := fun i k q1 q2 => by simp [e4, q1, q2]
  have e5 : ∀ i k, tkS S j v 5 i k = if i = j ∧ k = (S 4 j 1).toNat then v else S 5 i k := fun i k => by simp [tkS, takeS, up3]
  have e21 : ∀ k, tkS S j v 21 0 k = if k = nC S then (j : Int) else S 21 0 k := fun k => by simp [tkS, takeS, up3]
  have e22 : ∀ k, tkS S j v 22 0 k = if k = nC S then v else S 22 0 k := fun k => by simp [tkS, takeS, up3]
  have e23 : ∀ k, tkS S j v 23 0 k = if k = nC S then S 11 0 13 else S 23 0 k := fun k => by simp [tkS, takeS, up3]
  have e13 : tkS S j v 11 0 13 = S 11 0 13 + 1 := by simp [tkS, up3]
  have e14 : tkS S j v 11 0 14 = S 11 0 14 + 1 := by simp [tkS, up3]
  have enC : nC (tkS S j v) = nC S + 1 := by unfold nC at hn14 ⊢; rw [e14]; omega
  have elm : ∀ i : Nat, lotM (tkS S j v) i (nC (tkS S j v)) = lotM S i (nC S) + (if i = j then v else 0) := fun i => by
    rw [enC]
    show smN (fun k => if tkS S j v 21 0 k = i then tkS S j v 22 0 k else 0) (nC S) + (if tkS S j v 21 0 (nC S) = i then tkS S j v 22 0 (nC S) else 0) = _
    rw [smN_cong (f := fun k => if tkS S j v 21 0 k = i then tkS S j v 22 0 k else 0) (h := fun k => if S 21 0 k = i then S 22 0 k else 0) (fun k hk => by
      show (if tkS S j v 21 0 k = i then tkS S j v 22 0 k else 0) = _
      rw [e21, e22, if_neg (show ¬ k = nC S by omega), if_neg (show ¬ k = nC S by omega)]), e21, e22, if_pos rfl, if_pos rfl]
    show lotM S i (nC S) + _ = _
    congr 1
    by_cases q : i = j
    · subst q; rw [if_pos rfl, if_pos rfl]
    · rw [if_neg (by omega), if_neg q]
  have hci : CI (tkS S j v) := by
    refine CI_set h.ci rfl rfl rfl h.ci.2.2.2.2.2.1 (fun i hi => ?_)
    have hM := takeS_MI (S := S) (j := j) (lots := v) ⟨htk, hc100⟩ (by omega) (fun i hi => h.ci.mem hi) i hi
    exact hM
  have hrs : RS (tkS S j v) := h.rs
  have hF : ∀ i, i < 10 → RFi (tkS S j v) i := fun i hi => by
    have hf := h.rf hi
    unfold RFi at hf ⊢
    rw [e6 i 3 (by omega) (by omega), e6 i 4 (by omega) (by omega), e6 i 5 (by omega) (by omega), e6 i 6 (by omega) (by omega), e6 i 7 (by omega) (by omega), e6 i 8 (by omega) (by omega), e6 i 9 (by omega) (by omega), e6 i 10 (by omega) (by omega), e6 i 11 (by omega) (by omega), e6 i 12 (by omega) (by omega)]
    exact hf
  have hO : mO (tkS S j v) := fun k hk => by
    have hO9 := hm.2.2.1 k hk
    rw [e21, e22, e23]
    by_cases q : k = nC S
    · rw [if_pos q, if_pos q, if_pos q]; omega
    · rw [if_neg q, if_neg q, if_neg q]; exact hO9
  refine ⟨⟨hci, mI_of hci hF hrs (by rw [e13]; omega) (by rw [e14]; omega) hN.2.2.2.2.2 hO hm.2.2.2.1 hm.2.2.2.2, hrs, hF, h.rb, fun k hk hc9 => ?_, fun i hi => ?_, fun c9 hc9 => ?_, ⟨by rw [e14]; omega, by rw [e13]; omega, ?_, fun i hi => ?_⟩, fun q => (e6 _ 3 (by omega) (by omega)).trans (h.rwf q)⟩, by rw [e4, if_pos ⟨rfl, rfl⟩]⟩
  · have hz := h.rz k hk hc9
    have hc' : S 0 0 3 ≤ k := hc9
    rw [e4 k 2, if_neg (by omega), if_neg (by omega), e6 k 12 (by omega) (by omega)]
    exact hz
  · by_cases q : i = j
    · subst q
      refine ⟨fun k => if k = (S 4 i 1).toNat then nC S else sj k, ⟨?_, ?_, ?_, ?_⟩⟩
      · rw [elm, if_pos rfl, e4 i 1, e4 i 2, e6 i 6 (by omega) (by omega), if_neg (by omega), if_pos ⟨rfl, rfl⟩, if_pos ⟨rfl, rfl⟩]
        have := hsj.1
        omega
      · intro k hk
        rw [e4 i 1, if_neg (by omega), if_pos ⟨rfl, rfl⟩] at hk
        dsimp only
        by_cases qk : k = (S 4 i 1).toNat
        · rw [if_pos qk, enC, e21, e22, e5, if_pos rfl, if_pos rfl, if_pos ⟨rfl, qk⟩]
          exact ⟨by omega, rfl, rfl⟩
        · have h9 := hsj.2.1 k (by omega)
          rw [if_neg qk, enC, e21, e22, e5, if_neg (by omega), if_neg (by omega), if_neg (fun w => qk w.2)]
          exact ⟨by omega, h9.2.1, h9.2.2⟩
      · intro k k' hkk hk
        rw [e4 i 1, if_neg (by omega), if_pos ⟨rfl, rfl⟩] at hk
        dsimp only
        have h9 := hsj.2.1 k (by omega)
        rw [if_neg (show ¬ k = (S 4 i 1).toNat by omega), e23, e23, if_neg (show ¬ sj k = nC S by omega)]
        by_cases qk : k' = (S 4 i 1).toNat
        · rw [if_pos qk, if_pos rfl]
          exact (h.rx _ h9.1).2.1
        · have h8 := hsj.2.1 k' (by omega)
          rw [if_neg qk, if_neg (show ¬ sj k' = nC S by omega)]
          exact hsj.2.2.1 k k' hkk (by omega)
      · intro c9 hc9 ho
        rw [enC] at hc9
        rw [e21] at ho
        rw [e4 i 1, if_neg (by omega), if_pos ⟨rfl, rfl⟩]
        by_cases qc : c9 = nC S
        · exact ⟨(S 4 i 1).toNat, by omega, by dsimp only; rw [if_pos rfl, qc]⟩
        · rw [if_neg qc] at ho
          obtain ⟨k, hk, ek⟩ := hsj.2.2.2 c9 (by omega) ho
          exact ⟨k, by omega, by dsimp only; rw [if_neg (by omega)]; exact ek⟩
    · obtain ⟨s, hs⟩ := h.rc i hi
      refine ⟨s, ?_⟩
      have a1 : tkS S j v 4 i 1 = S 4 i 1 := by rw [e4, if_neg (by omega), if_neg (by omega)]
      have a2 : tkS S j v 4 i 2 = S 4 i 2 := by rw [e4, if_neg (by omega), if_neg (by omega)]
      unfold RCi
      rw [elm, if_neg q, a1, a2, e6 i 6 (by omega) (by omega), enC]
      refine ⟨by have := hs.1; omega, fun k hk => ?_, fun k k' hkk hk => ?_, fun c9 hc9 ho => ?_⟩
      · have h9 := hs.2.1 k hk
        rw [e21, e22, e5, if_neg (by omega), if_neg (by omega), if_neg (fun w => q w.1)]
        exact ⟨by omega, h9.2.1, h9.2.2⟩
      · have h9 := hs.2.1 k (by omega)
        have h8 := hs.2.1 k' (by omega)
        rw [e23, e23, if_neg (by omega), if_neg (by omega)]
        exact hs.2.2.1 k k' hkk hk
      · rw [e21] at ho
        by_cases qc : c9 = nC S
        · rw [if_pos qc] at ho
          omega
        · rw [if_neg qc] at ho
          exact hs.2.2.2 c9 (by omega) ho
  · rw [enC] at hc9
    have hcc := h.cnt
    rw [e21, e22, e23, e13]
    show _ ∧ _ ∧ _ < S 11 0 9
    by_cases qc : c9 = nC S
    · rw [if_pos qc, if_pos qc, if_pos qc]
      omega
    · have hx := h.rx c9 (by omega)
      rw [if_neg qc, if_neg qc, if_neg qc]
      omega
  · show 0 ≤ S 0 0 6 ∧ S 0 0 6 ≤ _
    have := hrt.2.2.1
    omega
  · rw [e6 i 10 (by omega) (by omega), e6 i 11 (by omega) (by omega)]
    have := hrt.2.2.2 i hi
    omega
