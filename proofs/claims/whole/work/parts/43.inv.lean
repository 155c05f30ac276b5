/-! ===== the relation kept: what changes neither clients nor bids ===== -/
theorem mI_of {S : St} (hc : CI S) (hF : ∀ i, i < 10 → RFi S i) (hrs : RS S) (h13 : 0 ≤ S 11 0 13 ∧ S 11 0 13 ≤ 1000000) (h14 : 0 ≤ S 11 0 14 ∧ S 11 0 14 ≤ 999) (h19 : 0 ≤ S 11 0 19 ∧ S 11 0 19 ≤ 120) (hO : mO S) (hB : mB S) (hP : mP S) : mI S := by
  obtain ⟨r1, r2, r3, r4, r5⟩ := hrs
  have c1 := hc.1
  have c2 := hc.2.1
  have c3 := hc.2.2.1
  refine ⟨?_, fun k hk => ?_, hO, hB, hP⟩
  · unfold mN
    omega
  · have hm := hc.mem hk
    have hf := hF k hk
    unfold MI at hm
    unfold RFi at hf
    omega
theorem Inv.gen {t t' : Nat} {S S' : St} (h : Inv t S) (hci : CI S') (hP : mP S') (h2 : S' 2 = S 2) (h5 : S' 5 = S 5) (h7 : S' 7 = S 7) (h21 : S' 21 = S 21) (h22 : S' 22 = S 22) (h23 : S' 23 = S 23) (h24 : S' 24 = S 24) (h13 : S' 11 0 13 = S 11 0 13) (h14 : S' 11 0 14 = S 11 0 14) (h19 : S' 11 0 19 = S 11 0 19)
    (hrs : RS S') (h3 : S' 0 0 3 = S 0 0 3) (hF : ∀ i, i < 10 → RFi S' i) (h4 : ∀ i, S' 4 i 1 = S 4 i 1 ∧ S' 4 i 2 = S 4 i 2 ∧ S' 4 i 6 = S 4 i 6) (hz : RZ S') (hb : S' 0 0 7 ≠ -1 → S' 0 0 7 = S 0 0 7) (hT : RT t' S') (hw : RW S') : Inv t' S' := by
  have hm := h.mi
  have hN := hm.1
  unfold mN at hN
  have hnC : nC S' = nC S := by unfold nC; rw [h14]
  have hlm : ∀ z m, lotM S' z m = lotM S z m := fun z m => by unfold lotM; rw [h21, h22]
  refine ⟨hci, mI_of hci hF hrs (by omega) (by omega) (by omega) ?_ ?_ hP, hrs, hF, fun q => ?_, hz, fun i hi => ?_, fun c hc => ?_, hT, hw⟩
  · unfold mO
    rw [h21, h22, h23]
    exact hm.2.2.1
  · unfold mB
    rw [h24]
    exact hm.2.2.2.1
  · rw [h2, h7, h24, h19, h3]
    exact h.rb (by rw [← hb q]; exact q)
  · obtain ⟨s, hs⟩ := h.rc i hi
    refine ⟨s, ?_⟩
    unfold RCi
    rw [(h4 i).1, (h4 i).2.1, (h4 i).2.2, hnC, hlm, h21, h22, h23, h5]
    exact hs
  · rw [hnC] at hc
    have r1 := hrs.1
    have r2 := h.cnt
    rw [h21, h22, h23, h13, ← r1, h3, r2]
    exact h.rx c hc
/-- one field of a member and the array that stands for it -/
theorem MI_set {S : St} {i : Nat} {j f : Nat} {v : Int} (h : MI S i) (hf : f = 7 ∧ (0 ≤ v ∧ v ≤ 1000000) ∨ f = 8 ∧ (0 ≤ v ∧ v ≤ 1000000) ∨ f = 3 ∧ 0 ≤ v ∧ v ≤ 3) : MI (up3 S 4 j f v) i := by
  have e : ∀ k, up3 S 4 j f v 4 i k = if i = j ∧ k = f then v else S 4 i k := fun k => by simp [up3]
  have e5 : ∀ k, up3 S 4 j f v 5 i k = S 5 i k := fun k => by simp [up3]
  unfold MI at h ⊢
  obtain ⟨a1, a2, a3, a4, a5, a6, a7, a8, a9, a10, a11⟩ := h
  refine ⟨?_, ?_, ?_, ?_, ?_, ?_, ?_, ?_, ?_, ?_, fun k hk => ?_⟩
  all_goals first | (rw [e5]; exact a11 k hk) | (rw [e]; split <;> omega)
section SETS
theorem Inv.gain {t : Nat} {S : St} (h : Inv t S) {j : Nat} {v : Int} (hv : 0 ≤ v ∧ v ≤ 1000000) : Inv t (up3 (up3 S 4 j 7 v) 15 0 j v) := by
  have hm := h.mi
  have e4 : ∀ i k, k ≠ 7 → up3 (up3 S 4 j 7 v) 15 0 j v 4 i k = S 4 i k := fun i k hk => by simp [up3, hk]
  have hci : CI (up3 (up3 S 4 j 7 v) 15 0 j v) := CI_set h.ci rfl rfl rfl h.ci.2.2.2.2.2.1 (fun i hi => MI_set (h.ci.mem hi) (Or.inl ⟨rfl, hv⟩))
  refine h.gen hci hm.2.2.2.2 rfl rfl rfl rfl rfl rfl rfl rfl rfl rfl h.rs rfl (fun i hi => ?_) (fun i => ⟨e4 i 1 (by omega), e4 i 2 (by omega), e4 i 6 (by omega)⟩) (fun k hk hc => ?_) (fun _ => rfl) ?_ (fun q => (e4 _ 3 (by omega)).trans (h.rwf q))
  · have hf := h.rf hi
    unfold RFi at hf ⊢
    by_cases q : i = j
    · subst q
      simp [up3, hf]
    · simp [up3, q, hf]
  · have hz := h.rz k hk hc
    rw [e4 k 12 (by omega), e4 k 2 (by omega)]
    exact hz
  · have ht := h.rt
    refine ⟨ht.1, ht.2.1, ht.2.2.1, fun i hi => ?_⟩
    rw [e4 i 10 (by omega), e4 i 11 (by omega)]
    exact ht.2.2.2 i hi
theorem Inv.tested {t : Nat} {S : St} (h : Inv t S) {j : Nat} {v : Int} (hv : 0 ≤ v ∧ v ≤ 1000000) : Inv t (up3 (up3 S 4 j 8 v) 16 0 j v) := by
  have hm := h.mi
  have e4 : ∀ i k, k ≠ 8 → up3 (up3 S 4 j 8 v) 16 0 j v 4 i k = S 4 i k := fun i k hk => by simp [up3, hk]
  have hci : CI (up3 (up3 S 4 j 8 v) 16 0 j v) := CI_set h.ci rfl rfl rfl h.ci.2.2.2.2.2.1 (fun i hi => MI_set (h.ci.mem hi) (Or.inr (Or.inl ⟨rfl, hv⟩)))
  refine h.gen hci hm.2.2.2.2 rfl rfl rfl rfl rfl rfl rfl rfl rfl rfl h.rs rfl (fun i hi => ?_) (fun i => ⟨e4 i 1 (by omega), e4 i 2 (by omega), e4 i 6 (by omega)⟩) (fun k hk hc => ?_) (fun _ => rfl) ?_ (fun q => (e4 _ 3 (by omega)).trans (h.rwf q))
  · have hf := h.rf hi
    unfold RFi at hf ⊢
    by_cases q : i = j
    · subst q
      simp [up3, hf]
    · simp [up3, q, hf]
  · have hz := h.rz k hk hc
    rw [e4 k 12 (by omega), e4 k 2 (by omega)]
    exact hz
  · have ht := h.rt
    refine ⟨ht.1, ht.2.1, ht.2.2.1, fun i hi => ?_⟩
    rw [e4 i 10 (by omega), e4 i 11 (by omega)]
    exact ht.2.2.2 i hi
theorem Inv.state {t : Nat} {S : St} (h : Inv t S) {j : Nat} {v : Int} (hv : 0 ≤ v ∧ v ≤ 3) (hf7 : S 0 0 7 = -1) : Inv t (up3 (up3 S 4 j 3 v) 17 0 j v) := by
  have hm := h.mi
  have e4 : ∀ i k, k ≠ 3 → up3 (up3 S 4 j 3 v) 17 0 j v 4 i k = S 4 i k := fun i k hk => by simp [up3, hk]
  have hci : CI (up3 (up3 S 4 j 3 v) 17 0 j v) := CI_set h.ci rfl rfl rfl h.ci.2.2.2.2.2.1 (fun i hi => MI_set (h.ci.mem hi) (Or.inr (Or.inr ⟨rfl, hv⟩)))
  refine h.gen hci hm.2.2.2.2 rfl rfl rfl rfl rfl rfl rfl rfl rfl rfl h.rs rfl (fun i hi => ?_) (fun i => ⟨e4 i 1 (by omega), e4 i 2 (by omega), e4 i 6 (by omega)⟩) (fun k hk hc => ?_) (fun _ => rfl) ?_ (fun q => absurd hf7 q)
  · have hf := h.rf hi
    unfold RFi at hf ⊢
    by_cases q : i = j
    · subst q
      simp [up3, hf]
    · simp [up3, q, hf]
  · have hz := h.rz k hk hc
    rw [e4 k 12 (by omega), e4 k 2 (by omega)]
    exact hz
  · have ht := h.rt
    refine ⟨ht.1, ht.2.1, ht.2.2.1, fun i hi => ?_⟩
    rw [e4 i 10 (by omega), e4 i 11 (by omega)]
    exact ht.2.2.2 i hi
theorem Inv.capital {t : Nat} {S : St} (h : Inv t S) {v : Int} (hv : 0 ≤ v ∧ v ≤ 1000000) : Inv t (up3 (up3 S 0 0 4 v) 11 0 15 v) := by
  have hm := h.mi
  have hci : CI (up3 (up3 S 0 0 4 v) 11 0 15 v) := CI_00 h.ci (Or.inl ⟨rfl, hv⟩)
  exact h.gen hci hm.2.2.2.2 rfl rfl rfl rfl rfl rfl rfl rfl rfl rfl ⟨h.rs.1, rfl, h.rs.2.2.1, h.rs.2.2.2.1, h.rs.2.2.2.2⟩ rfl h.2.2.2.1 (fun i => ⟨rfl, rfl, rfl⟩) h.rz (fun _ => rfl) h.rt h.rwf
end SETS
