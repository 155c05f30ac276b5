/-! ===== close: what each stage eats ===== -/
section STAGE
variable {X : St} {a : Int}
theorem sh_all (hI : CI X) (hZ : Z8 X) (ha : 0 ≤ a ∧ a ≤ 100000000) (jj : Int) : ∃ P : Nat → Int, (CI (eaSh X a jj).1 ∧ Z8 (eaSh X a jj).1 ∧ cN (eaSh X a jj).1 = cN X) ∧ (∀ i, i < cN X → (eaSh X a jj).1 4 i 5 = X 4 i 5 - P i) ∧ (∀ i k, k ≠ 5 → (eaSh X a jj).1 4 i k = X 4 i k) ∧ (∀ k, (eaSh X a jj).1 0 0 k = X 0 0 k) ∧
    (∀ i, i < cN X → (0 ≤ P i ∧ P i ≤ X 4 i 5) ∧ (¬ (actv X i ∧ X 4 i 9 = jj) → P i = 0) ∧ (0 < (eaSh X a jj).2 → actv X i ∧ X 4 i 9 = jj → P i = X 4 i 5)) ∧ smN P (cN X) + (eaSh X a jj).2 = a ∧ 0 ≤ (eaSh X a jj).2 ∧ (eaSh X a jj).2 ≤ a := by
  have hw := shW_ok hI jj
  have hr := prS_rng hI hw ha
  have hs := prS_sum hI hZ hw ha
  refine ⟨(prS X (shW X jj) (fun i => X 4 i 5) a).1, ⟨(CI_eaSh hI ha jj).1, Z8_eat hZ _ _ _ _ _, rfl⟩, fun i hi => ?_, fun i k hk => eaSh_k hk, fun k => rfl, fun i hi => ⟨hr.1 i hi, fun q => prS_zero hI hw ha hi (by unfold shW; rw [if_neg q]), fun hl q => ?_⟩, hs, hr.2⟩
  · exact (eat_4 X (shW X jj) (fun i => X 4 i 5) a 5 (fun i => X 4 i 5 - (prS X (shW X jj) (fun i => X 4 i 5) a).1 i) i 5).trans (if_pos ⟨rfl, hi⟩)
  · have ew : shW X jj i = X 4 i 5 := by unfold shW; rw [if_pos q]
    have h1 := hr.1 i hi
    by_cases q0 : 0 < X 4 i 5
    · exact prS_full hI hw ha hl hi (by rw [ew]; exact q0)
    · have h2 : (prS X (shW X jj) (fun i => X 4 i 5) a).1 i ≤ X 4 i 5 := h1.2
      omega
theorem as_all (hI : CI X) (hZ : Z8 X) (ha : 0 ≤ a ∧ a ≤ 100000000) : ∃ P : Nat → Int, (CI (eaAs X a).1 ∧ Z8 (eaAs X a).1 ∧ cN (eaAs X a).1 = cN X) ∧ (∀ i, i < cN X → (eaAs X a).1 4 i 10 = X 4 i 10 + P i) ∧ (∀ i k, k ≠ 10 → (eaAs X a).1 4 i k = X 4 i k) ∧ (∀ k, (eaAs X a).1 0 0 k = X 0 0 k) ∧
    (∀ i, i < cN X → 0 ≤ P i ∧ P i ≤ X 4 i 12 ∧ (X 4 i 3 = 1 → P i ≤ X 4 i 12 / 2) ∧ (¬ actv X i → P i = 0)) ∧ smN P (cN X) + (eaAs X a).2 = a ∧ 0 ≤ (eaAs X a).2 ∧ (eaAs X a).2 ≤ a := by
  have hw := asW_ok hI
  have hr := prS_rng hI hw ha
  have hs := prS_sum hI hZ hw ha
  have hcl := cN_le hI
  refine ⟨(prS X (asW X) (asB X) a).1, ⟨(CI_eaAs hI ha).1, Z8_eat hZ _ _ _ _ _, rfl⟩, fun i hi => ?_, fun i k hk => eaAs_k hk, fun k => rfl, fun i hi => ?_, hs, hr.2⟩
  · exact (eat_4 X (asW X) (asB X) a 10 (fun i => X 4 i 10 + (prS X (asW X) (asB X) a).1 i) i 10).trans (if_pos ⟨rfl, hi⟩)
  · have h1 := hr.1 i hi
    have hm := hI.mem (show i < 10 by omega)
    unfold MI at hm
    have h12 := hm.2.2.2.2.2.2.2.2.2.1
    by_cases qa : actv X i
    · have ew : asW X i = X 4 i 12 := by unfold asW; rw [if_pos qa]
      have eb : asB X i = if X 4 i 3 = 1 then X 4 i 12 / 2 else X 4 i 12 := by unfold asB; rw [ew]
      rw [eb] at h1
      refine ⟨h1.1, ?_, fun q => ?_, fun q => absurd qa q⟩
      · split at h1 <;> omega
      · rw [if_pos q] at h1
        exact h1.2
    · have hz := prS_zero hI hw ha hi (by unfold asW; rw [if_neg qa])
      rw [hz]
      exact ⟨by omega, by omega, fun _ => by omega, fun _ => rfl⟩
theorem gn_all (hI : CI X) (hZ : Z8 X) (ha : 0 ≤ a ∧ a ≤ 100000000) : ∃ P : Nat → Int, (CI (eaGn X a).1 ∧ Z8 (eaGn X a).1 ∧ cN (eaGn X a).1 = cN X) ∧ (∀ i, i < cN X → (eaGn X a).1 4 i 7 = X 4 i 7 - P i) ∧ (∀ i k, k ≠ 7 → (eaGn X a).1 4 i k = X 4 i k) ∧ (∀ k, (eaGn X a).1 0 0 k = X 0 0 k) ∧
    (∀ i, i < cN X → (0 ≤ P i ∧ P i ≤ X 4 i 7) ∧ (¬ actv X i → P i = 0) ∧ (0 < (eaGn X a).2 → actv X i → P i = X 4 i 7)) ∧ smN P (cN X) + (eaGn X a).2 = a ∧ 0 ≤ (eaGn X a).2 ∧ (eaGn X a).2 ≤ a := by
  have hw := gnW_ok hI
  have hr := prS_rng hI hw ha
  have hs := prS_sum hI hZ hw ha
  refine ⟨(prS X (gnW X) (fun i => X 4 i 7) a).1, ⟨(CI_eaGn hI ha).1, Z8_eat hZ _ _ _ _ _, rfl⟩, fun i hi => ?_, fun i k hk => eaGn_k hk, fun k => rfl, fun i hi => ⟨hr.1 i hi, fun q => prS_zero hI hw ha hi (by unfold gnW; rw [if_neg q]), fun hl q => ?_⟩, hs, hr.2⟩
  · exact (eat_4 X (gnW X) (fun i => X 4 i 7) a 7 (fun i => X 4 i 7 - (prS X (gnW X) (fun i => X 4 i 7) a).1 i) i 7).trans (if_pos ⟨rfl, hi⟩)
  · have ew : gnW X i = X 4 i 7 := by unfold gnW; rw [if_pos q]
    have h1 := hr.1 i hi
    by_cases q0 : 0 < X 4 i 7
    · exact prS_full hI hw ha hl hi (by rw [ew]; exact q0)
    · have h2 : (prS X (gnW X) (fun i => X 4 i 7) a).1 i ≤ X 4 i 7 := h1.2
      omega
end STAGE
theorem smN_one {f : Nat → Int} {n k : Nat} (h : ∀ j, j < n → 0 ≤ f j) (hk : k < n) : f k ≤ smN f n := smN_mem h hk
/-- the whole chain, from the state behind the ranking: what shares, assessments and gains lose and bear -/
theorem ea_all {X : St} (hI : CI X) (hZ : Z8 X) {i : Nat} (hi : i < 10) : ∃ P Q R : Nat → Int,
    (CI (ea4 X i).1 ∧ Z8 (ea4 X i).1 ∧ cN (ea4 X i).1 = cN X) ∧ (∀ j, j < cN X → (ea4 X i).1 4 j 5 = X 4 j 5 - P j ∧ (ea4 X i).1 4 j 10 = X 4 j 10 + Q j ∧ (ea4 X i).1 4 j 7 = X 4 j 7 - R j) ∧ (∀ j k, k ≠ 5 → k ≠ 7 → k ≠ 10 → (ea4 X i).1 4 j k = X 4 j k) ∧
    ((ea4 X i).1 0 0 4 = X 0 0 4 - pd3 X i ∧ ∀ k, k ≠ 4 → (ea4 X i).1 0 0 k = X 0 0 k) ∧
    (∀ j, j < cN X → (0 ≤ P j ∧ P j ≤ X 4 j 5) ∧ (0 ≤ Q j ∧ Q j ≤ X 4 j 12 ∧ (X 4 j 3 = 1 → Q j ≤ X 4 j 12 / 2)) ∧ (0 ≤ R j ∧ R j ≤ X 4 j 7) ∧ (¬ actv X j → P j = 0 ∧ Q j = 0 ∧ R j = 0) ∧ (0 < R j → P j = X 4 j 5) ∧ (0 < (ea4 X i).2 → actv X j → P j = X 4 j 5 ∧ R j = X 4 j 7)) ∧
    pd3 X i + smN P (cN X) + smN Q (cN X) + smN R (cN X) = lf3 X i - (ea4 X i).2 ∧ (0 ≤ (ea4 X i).2 ∧ (ea4 X i).2 ≤ lf3 X i) ∧ (0 ≤ pd3 X i ∧ pd3 X i ≤ X 0 0 4) ∧ (0 < (ea4 X i).2 → pd3 X i = X 0 0 4) := by
  have h0 := ea0_ok hI hi
  have z0 : Z8 (ea0 X i).1 := Z8_cong hZ rfl rfl
  have n0 : cN (ea0 X i).1 = cN X := rfl
  have k0 : ∀ j k, (ea0 X i).1 4 j k = X 4 j k := fun j k => ea0_k
  have m0 : (ea0 X i).1 0 0 4 = X 0 0 4 - pd3 X i := rfl
  have m0' : ∀ k, k ≠ 4 → (ea0 X i).1 0 0 k = X 0 0 k := fun k hk => up3_k hk
  have v0 : (ea0 X i).2 = lf3 X i - pd3 X i := rfl
  have h5 := hI.2.2.2.1
  have h4 := hI.2.1
  have hm := hI.mem hi
  unfold MI at hm
  have hlf : 0 ≤ lf3 X i := by unfold lf3; omega
  have hpd : 0 ≤ pd3 X i ∧ pd3 X i ≤ X 0 0 4 ∧ pd3 X i ≤ lf3 X i ∧ (pd3 X i = X 0 0 4 ∨ pd3 X i = lf3 X i) := by unfold pd3; omega
  have s1 := sh_all h0.1 z0 (a := (ea0 X i).2) (by omega) 1
  rw [show eaSh (ea0 X i).1 (ea0 X i).2 1 = ea1 X i from rfl] at s1
  generalize (ea0 X i).1 = X0, (ea0 X i).2 = a0 at *
  obtain ⟨P1, ⟨c1, z1, n1⟩, e1, k1, m1, p1, q1, r1⟩ := s1
  have s2 := sh_all c1 z1 (a := (ea1 X i).2) (by omega) 0
  rw [show eaSh (ea1 X i).1 (ea1 X i).2 0 = ea2 X i from rfl] at s2
  generalize (ea1 X i).1 = X1, (ea1 X i).2 = a1 at *
  obtain ⟨P2, ⟨c2, z2, n2⟩, e2, k2, m2, p2, q2, r2⟩ := s2
  have s3 := as_all c2 z2 (a := (ea2 X i).2) (by omega)
  rw [show eaAs (ea2 X i).1 (ea2 X i).2 = ea3 X i from rfl] at s3
  generalize (ea2 X i).1 = X2, (ea2 X i).2 = a2 at *
  obtain ⟨Q, ⟨c3, z3, n3⟩, e3, k3, m3, p3, q3, r3⟩ := s3
  have s4 := gn_all c3 z3 (a := (ea3 X i).2) (by omega)
  rw [show eaGn (ea3 X i).1 (ea3 X i).2 = ea4 X i from rfl] at s4
  generalize (ea3 X i).1 = X3, (ea3 X i).2 = a3 at *
  obtain ⟨R, ⟨c4, z4, n4⟩, e4, k4, m4, p4, q4, r4⟩ := s4
  generalize (ea4 X i).1 = X4, (ea4 X i).2 = a4 at *
  rw [n0] at n1 e1 p1 q1
  rw [n1] at n2 e2 p2 q2
  rw [n2] at n3 e3 p3 q3
  rw [n3] at n4 e4 p4 q4
  have hcl := cN_le hI
  have hq := smN_add P1 P2 (cN X)
  refine ⟨fun k => P1 k + P2 k, Q, R, ⟨c4, z4, n4⟩, fun j hj => ?_, fun j k a b c => ?_, ⟨?_, fun k hk => ?_⟩, fun j hj => ?_, by omega, by omega, by omega, fun q => by omega⟩
  · rw [k4 j 5 (by omega), k3 j 5 (by omega), e2 j hj, e1 j hj, k0, k4 j 10 (by omega), e3 j hj, k2 j 10 (by omega), k1 j 10 (by omega), k0, e4 j hj, k3 j 7 (by omega), k2 j 7 (by omega), k1 j 7 (by omega), k0]
    refine ⟨?_, rfl, rfl⟩
    show _ = X 4 j 5 - (P1 j + P2 j)
    omega
  · rw [k4 j k b, k3 j k c, k2 j k a, k1 j k a, k0]
  · rw [m4, m3, m2, m1, m0]
  · rw [m4, m3, m2, m1, m0' k hk]
  · have w1 := p1 j hj
    have w2 := p2 j hj
    have w3 := p3 j hj
    have w4 := p4 j hj
    have hm9 := (hI.mem (show j < 10 by omega)).2.2.2.2.2.2.2.2.1
    have a0e : actv X0 j ↔ actv X j := by unfold actv; rw [k0]
    have a1e : actv X1 j ↔ actv X j := by unfold actv; rw [k1 j 3 (by omega), k0]
    have a2e : actv X2 j ↔ actv X j := by unfold actv; rw [k2 j 3 (by omega), k1 j 3 (by omega), k0]
    have a3e : actv X3 j ↔ actv X j := by unfold actv; rw [k3 j 3 (by omega), k2 j 3 (by omega), k1 j 3 (by omega), k0]
    rw [k0 j 5, k0 j 9, a0e] at w1
    rw [e1 j hj, k1 j 9 (by omega), k0 j 5, k0 j 9, a1e] at w2
    rw [k2 j 12 (by omega), k1 j 12 (by omega), k0 j 12, k2 j 3 (by omega), k1 j 3 (by omega), k0 j 3, a2e] at w3
    rw [k3 j 7 (by omega), k2 j 7 (by omega), k1 j 7 (by omega), k0 j 7, a3e] at w4
    have hful : actv X j → 0 < a2 → P1 j + P2 j = X 4 j 5 := fun qa ql => by
      by_cases q9 : X 4 j 9 = 1
      · have g1 := w1.2.2 (by omega) ⟨qa, q9⟩
        have g2 := w2.2.1 (fun z => by have := z.2; omega)
        omega
      · have g1 := w1.2.1 (fun z => q9 z.2)
        have g2 := w2.2.2 ql ⟨qa, by omega⟩
        omega
    have hmem := smN_mem (f := R) (m := cN X) (k := j) (fun k hk => (p4 k hk).1.1) hj
    refine ⟨⟨by show 0 ≤ P1 j + P2 j; omega, by show P1 j + P2 j ≤ _; omega⟩, ⟨w3.1, w3.2.1, w3.2.2.1⟩, w4.1, fun q => ⟨?_, w3.2.2.2 q, w4.2.1 q⟩, fun q => ?_, fun ql qa => ⟨hful qa (by omega), w4.2.2 ql qa⟩⟩
    · have g1 := w1.2.1 (fun z => q z.1)
      have g2 := w2.2.1 (fun z => q z.1)
      show P1 j + P2 j = 0
      omega
    · by_cases qa : actv X j
      · exact hful qa (by omega)
      · have := w4.2.1 qa
        omega
