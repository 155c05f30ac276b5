/-! ===== close keeps the relation ===== -/
section CL4
theorem close_Inv {t : Nat} {S M0 : St} (h : Inv t S) (ht : t < 512) {i : Nat} (ei : S 0 0 7 = i) (hi : i < 10) (hT : ∀ t', 12 ≤ t' → t' < 29 → M0 t' = S t') (h11 : ∀ c, c ≠ 25 → M0 11 0 c = S 11 0 c) (hC : ∀ t', t' < 11 → M0 t' = clS S i t') :
    (ea4 (cl1 S) i).2 = (me4 (mcl1 M0) i).2 ∧ Inv (t + 1) (mclS M0 i) := by
  have h2 : S 4 i 3 = 2 := by
    have h9 := h.rwf (by omega)
    rw [ei] at h9
    simpa using h9
  have hm0 := mI_cong hT h11 h.mi
  have r0 : R2 S M0 := R2_cong hT h11 h.r2
  have rb : RB2 S M0 := by
    have h9 := h.rb (by omega)
    refine ⟨by rw [h11 19 (by omega)]; exact h9.1, ?_⟩
    rw [hT 24 (by omega) (by omega)]
    exact h9.2
  obtain ⟨r1, e5, hw11⟩ := cl1_R2 r0 h.ci hm0 rb
  have hc1 := CI_cl1 h.ci
  have hm1 := mcl1_ok hm0
  obtain ⟨r4, esum, e04⟩ := ea_R2 r1 hc1 hm1.1 (by rw [cl1_0 (by omega), mcl1_11 (by omega), h11 15 (by omega)]; exact h.rs.2.1) e5 hi
  refine ⟨esum, ?_⟩
  have co := (ea_ok hc1 hi).2.2.2
  have mo := (me_ok hm1.1 hm1.2 hi).2.2.2
  have kC := (KP_cl2 S i).1
  have kM := KM_mcl2 M0 i
  have hn : cN S = nM M0 := r0.n
  have hnC : nC (mcl2 M0 i) = nC S := by unfold nC; rw [kM.2 14 (by omega) (by omega) (by omega), h11 14 (by omega)]
  have y21 : mcl2 M0 i 21 = S 21 := by rw [kM.1 21 (by omega) (by omega) (by omega) (by omega) (by omega) (by omega) (by omega) (by omega) (by omega), hT 21 (by omega) (by omega)]
  have y22 : mcl2 M0 i 22 = S 22 := by rw [kM.1 22 (by omega) (by omega) (by omega) (by omega) (by omega) (by omega) (by omega) (by omega) (by omega), hT 22 (by omega) (by omega)]
  have y23 : mcl2 M0 i 23 = S 23 := by rw [kM.1 23 (by omega) (by omega) (by omega) (by omega) (by omega) (by omega) (by omega) (by omega) (by omega), hT 23 (by omega) (by omega)]
  have y24 : mcl2 M0 i 24 = S 24 := by rw [kM.1 24 (by omega) (by omega) (by omega) (by omega) (by omega) (by omega) (by omega) (by omega) (by omega), hT 24 (by omega) (by omega)]
  have y17 : mcl2 M0 i 17 = S 17 := by rw [kM.1 17 (by omega) (by omega) (by omega) (by omega) (by omega) (by omega) (by omega) (by omega) (by omega), hT 17 (by omega) (by omega)]
  have hOY : mO (mcl2 M0 i) := by
    unfold mO
    rw [y21, y22, y23]
    exact h.mi.2.2.1
  have hO1 : mO (emM (mcl2 M0 i) i 2) := mO_em hOY i 2
  have em := emM_keep (mcl2 M0 i) i 2
  obtain ⟨g17, g12, g13, g15, g21⟩ := emN_f (emM (mcl2 M0 i) i 2) hO1 (nM M0)
  have hnC1 : nC (emM (mcl2 M0 i) i 2) = nC S := by
    rw [← hnC]
    unfold nC
    rw [em.1 11 (by omega) (by omega) (by omega) (by omega) (by omega)]
  have s17 : ∀ j, j < 10 → emM (mcl2 M0 i) i 2 17 0 j = S 4 j 3 := fun j hj => by
    rw [em.2.1 j]
    by_cases q : j = i
    · rw [if_pos q, q, h2]
    · rw [if_neg q, y17]
      exact (h.rf hj).1.symm
  have F11 : ∀ c, c ≠ 15 → c ≠ 16 → c ≠ 17 → c ≠ 18 → c ≠ 25 → mclS M0 i 11 0 c = S 11 0 c := fun c a1 a2 a3 a4 a5 => by
    rw [mcls_11 hO1 a4, kM.2 c a1 a2 a3, h11 c a5]
  have FC : ∀ t', t' < 11 → mclS M0 i t' = clS S i t' := fun t' ht' => by
    rw [mcls_t hO1 (by omega) (by omega) (by omega) (by omega) (by omega) (by omega), kM.1 t' (by omega) (by omega) (by omega) (by omega) (by omega) (by omega) (by omega) (by omega) (by omega), hC t' ht']
  have hci : CI (mclS M0 i) := CI_cong FC (CI_cls h.ci hi h2)
  have f4 : ∀ j k, mclS M0 i 4 j k = if j < cN S ∧ S 4 j 3 = 1 then (if k = 3 then 3 else if zf5 k then 0 else cl2 S i 4 j k) else if j = i ∧ zf5 k then 0 else cl2 S i 4 j k := fun j k => by rw [FC 4 (by omega), cls_4 h2]
  have f00 : ∀ k, k ≠ 6 → k ≠ 7 → mclS M0 i 0 0 k = (ea0 (cl1 S) i).1 0 0 k := fun k a b => by rw [FC 0 (by omega), cls_0, if_neg b, cl2_0 a, KC_ea4 (cl1 S) i k]
  have f03 : mclS M0 i 0 0 3 = S 0 0 3 := by rw [f00 3 (by omega) (by omega), ea0_0 (by omega), cl1_0 (by omega)]
  have f06 : mclS M0 i 0 0 6 = S 0 0 6 + (ea4 (cl1 S) i).2 := by rw [FC 0 (by omega), cls_0, if_neg (by omega), cl2_06, KC_ea4 (cl1 S) i 6, ea0_0 (by omega), cl1_0 (by omega)]
  have f07 : mclS M0 i 0 0 7 = -1 := by rw [FC 0 (by omega), cls_0, if_pos rfl]
  have hrs : RS (mclS M0 i) := by
    refine ⟨?_, ?_, ?_, ?_, ?_⟩
    · rw [f03, F11 9 (by omega) (by omega) (by omega) (by omega) (by omega)]
      exact h.rs.1
    · rw [f00 4 (by omega) (by omega), e04, mcls_11 hO1 (by omega), mcl2_11 (by omega), KE_me4 (mcl1 M0) i 15]
    · rw [f00 5 (by omega) (by omega), ea0_0 (by omega), e5, mcls_11 hO1 (by omega), mcl2_11 (by omega), KE_me4 (mcl1 M0) i 16, me0_11 (by omega)]
    · rw [f06, esum, mcls_11 hO1 (by omega), mcl2_17, KE_me4 (mcl1 M0) i 17, me0_11 (by omega), mcl1_11 (by omega), h11 17 (by omega), h.rs.2.2.2.1]
    · rw [f07, mcls_18]
  have hF : ∀ j, j < 10 → RFi (mclS M0 i) j := fun j hj => by
    have hR := r4.2.1 j hj
    have c3 : cl2 S i 4 j 3 = S 4 j 3 := kC.1 j 3 (by omega) (by omega) (by omega) (by omega) (by omega)
    have u14 : mclS M0 i 14 0 j = mcl2 M0 i 14 0 j := by rw [mcls_t hO1 (by omega) (by omega) (by omega) (by omega) (by omega) (by omega)]
    have u16 : mclS M0 i 16 0 j = mcl2 M0 i 16 0 j := by rw [mcls_t hO1 (by omega) (by omega) (by omega) (by omega) (by omega) (by omega)]
    have u18 : mclS M0 i 18 0 j = mcl2 M0 i 18 0 j := by rw [mcls_t hO1 (by omega) (by omega) (by omega) (by omega) (by omega) (by omega)]
    have u19 : mclS M0 i 19 0 j = mcl2 M0 i 19 0 j := by rw [mcls_t hO1 (by omega) (by omega) (by omega) (by omega) (by omega) (by omega)]
    have u20 : mclS M0 i 20 0 j = mcl2 M0 i 20 0 j := by rw [mcls_t hO1 (by omega) (by omega) (by omega) (by omega) (by omega) (by omega)]
    have u25 : mclS M0 i 25 0 j = mcl2 M0 i 25 0 j := by rw [mcls_t hO1 (by omega) (by omega) (by omega) (by omega) (by omega) (by omega)]
    have u17 : mclS M0 i 17 0 j = if j < nM M0 ∧ S 4 j 3 = 1 then 3 else S 4 j 3 := by rw [mcls_u (by omega), g17 j, s17 j hj]
    have u12 : mclS M0 i 12 0 j = if j < nM M0 ∧ S 4 j 3 = 1 then 0 else if j = i then 0 else mcl2 M0 i 12 0 j := by rw [mcls_u (by omega), g12 j, s17 j hj, em.2.2.1 j]
    have u13 : mclS M0 i 13 0 j = if j < nM M0 ∧ S 4 j 3 = 1 then 0 else if j = i then 0 else mcl2 M0 i 13 0 j := by rw [mcls_u (by omega), g13 j, s17 j hj, em.2.2.2.1 j]
    have u15 : mclS M0 i 15 0 j = if j < nM M0 ∧ S 4 j 3 = 1 then 0 else if j = i then 0 else mcl2 M0 i 15 0 j := by rw [mcls_u (by omega), g15 j, s17 j hj, em.2.2.2.2.1 j]
    have hX : RF2 (cl2 S i) (mcl2 M0 i) j := by
      unfold RF2 at hR ⊢
      rw [cl2_t (by omega), mcl2_t (by omega), mcl2_t (by omega), mcl2_t (by omega), mcl2_t (by omega), mcl2_t (by omega), mcl2_t (by omega), mcl2_t (by omega), mcl2_t (by omega), mcl2_t (by omega), mcl2_t (by omega)]
      exact hR
    unfold RF2 at hX
    unfold RFi
    rw [u14, u16, u18, u19, u20, u25, u17, u12, u13, u15, ← hn]
    simp only [f4]
    obtain ⟨x3, x4, x5, x6, x7, x8, x9, x10, x11, x12⟩ := hX
    by_cases q : j < cN S ∧ S 4 j 3 = 1
    · simp only [if_pos q, zf5]
      simp [x6, x8, x9, x10, x11, x12]
    · simp only [if_neg q, zf5]
      by_cases q2 : j = i
      · subst q2
        simp [c3, x6, x8, x9, x10, x11, x12]
      · simp [q2, c3, x4, x5, x6, x7, x8, x9, x10, x11, x12]
  have hN := h.mi.1
  unfold mN at hN
  have hOF : mO (mclS M0 i) := by
    have h9 := (emN_keep hO1 (nM M0)).2.2
    unfold mO at h9 ⊢
    rw [mcls_u (by omega), mcls_u (by omega), mcls_u (by omega)]
    exact h9
  have hBF : mB (mclS M0 i) := by
    unfold mB
    rw [mcls_t hO1 (by omega) (by omega) (by omega) (by omega) (by omega) (by omega), y24]
    exact h.mi.2.2.2.1
  have hPF : mP (mclS M0 i) := by
    have h9 := mo.1.2.2.2.2
    unfold mP at h9 ⊢
    rw [mcls_t hO1 (by omega) (by omega) (by omega) (by omega) (by omega) (by omega), mcls_t hO1 (by omega) (by omega) (by omega) (by omega) (by omega) (by omega), mcls_t hO1 (by omega) (by omega) (by omega) (by omega) (by omega) (by omega), mcl2_t (by omega), mcl2_t (by omega), mcl2_t (by omega)]
    exact h9
  have F13 := F11 13 (by omega) (by omega) (by omega) (by omega) (by omega)
  have F14 := F11 14 (by omega) (by omega) (by omega) (by omega) (by omega)
  have F19 := F11 19 (by omega) (by omega) (by omega) (by omega) (by omega)
  have F9 := F11 9 (by omega) (by omega) (by omega) (by omega) (by omega)
  have FnC : nC (mclS M0 i) = nC S := by unfold nC; rw [F14]
  have F22 : mclS M0 i 22 = S 22 := by rw [mcls_t hO1 (by omega) (by omega) (by omega) (by omega) (by omega) (by omega), y22]
  have F23 : mclS M0 i 23 = S 23 := by rw [mcls_t hO1 (by omega) (by omega) (by omega) (by omega) (by omega) (by omega), y23]
  have F21 : ∀ c, c < nC S → mclS M0 i 21 0 c = (if S 21 0 c = i ∨ (0 ≤ S 21 0 c ∧ (S 21 0 c).toNat < cN S ∧ S 4 (S 21 0 c).toNat 3 = 1) then -1 else S 21 0 c) := fun c hc => by
    have e1 : emM (mcl2 M0 i) i 2 21 0 c = if S 21 0 c = i then -1 else S 21 0 c := by
      rw [em.2.2.2.2.2 c, hnC, y21]
      by_cases q : S 21 0 c = i
      · rw [if_pos ⟨hc, q⟩, if_pos q]
      · rw [if_neg (fun z => q z.2), if_neg q]
    have hrng := (h.mi.2.2.1 c (by unfold nC at hc; omega)).1
    rw [mcls_u (by omega), g21 c, hnC1, e1]
    by_cases q : S 21 0 c = i
    · rw [if_pos q, if_neg (show ¬ (c < nC S ∧ 0 ≤ (-1 : Int) ∧ (-1 : Int).toNat < nM M0 ∧ emM (mcl2 M0 i) i 2 17 0 (-1 : Int).toNat = 1) from fun z => absurd z.2.1 (by omega)), if_pos (Or.inl q)]
    · rw [if_neg q]
      by_cases q2 : 0 ≤ S 21 0 c ∧ (S 21 0 c).toNat < cN S ∧ S 4 (S 21 0 c).toNat 3 = 1
      · rw [if_pos ⟨hc, q2.1, by omega, by rw [s17 _ (by omega)]; exact q2.2.2⟩, if_pos (Or.inr q2)]
      · rw [if_neg (fun z => q2 ⟨z.2.1, by omega, by rw [← s17 _ (by omega)]; exact z.2.2.2⟩), if_neg (fun z => by rcases z with z | z; exact q z; exact q2 z)]
  refine ⟨hci, mI_of hci hF hrs (by rw [F13]; exact hN.2.1) (by rw [F14]; exact hN.2.2.1) (by rw [F19]; exact hN.2.2.2.2.2) hOF hBF hPF, hrs, hF, fun q => absurd f07 q, fun k hk hck => ?_, fun j hj => ?_, fun c hc => ?_, ⟨?_, ?_, ?_, fun j hj => ?_⟩, fun q => absurd f07 q⟩
  · rw [f03] at hck
    have h9 := h.rz k hk hck
    have hnp : ¬ (k < cN S ∧ S 4 k 3 = 1) := fun z => by
      have := z.1
      unfold cN at this
      omega
    have h8 := r4.2.2 k hk (by rw [KC_ea4 (cl1 S) i 3, ea0_0 (by omega), cl1_0 (by omega)]; exact hck)
    refine ⟨?_, ?_, ?_⟩
    · rw [FC 8 (by omega), cls_89 (by omega) (by omega), cl2_t (by omega)]
      exact h8.1
    · rw [f4, if_neg hnp, if_neg (fun z => by unfold zf5 at z; omega), cl2_k]
      exact h8.2
    · rw [f4, if_neg hnp]
      split
      · rfl
      · rw [kC.1 k 2 (by omega) (by omega) (by omega) (by omega) (by omega)]
        exact h9.2.2
  · obtain ⟨s, hs⟩ := h.rc j hj
    refine ⟨s, ?_⟩
    have hM6 := (h.ci.mem hj).2.2.2.2.2.1.1
    have x6 : mclS M0 i 4 j 6 = S 4 j 6 := by
      rw [f4, kC.1 j 6 (by omega) (by omega) (by omega) (by omega) (by omega)]
      simp [zf5]
    by_cases q : (j < cN S ∧ S 4 j 3 = 1) ∨ j = i
    · have x1 : mclS M0 i 4 j 1 = 0 := by
        rw [f4]
        by_cases q1 : j < cN S ∧ S 4 j 3 = 1
        · rw [if_pos q1]; simp [zf5]
        · rw [if_neg q1, if_pos ⟨by rcases q with q | q; exact absurd q q1; exact q, Or.inl rfl⟩]
      have x2 : mclS M0 i 4 j 2 = 0 := by
        rw [f4]
        by_cases q1 : j < cN S ∧ S 4 j 3 = 1
        · rw [if_pos q1]; simp [zf5]
        · rw [if_neg q1, if_pos ⟨by rcases q with q | q; exact absurd q q1; exact q, Or.inr (Or.inl rfl)⟩]
      have ho : ∀ c, c < nC S → mclS M0 i 21 0 c ≠ j := fun c hc z => by
        rw [F21 c hc] at z
        by_cases q3 : S 21 0 c = i ∨ (0 ≤ S 21 0 c ∧ (S 21 0 c).toNat < cN S ∧ S 4 (S 21 0 c).toNat 3 = 1)
        · rw [if_pos q3] at z
          omega
        · rw [if_neg q3] at z
          rcases q with q | q
          · exact q3 (Or.inr ⟨by omega, by omega, by rw [z]; exact q.2⟩)
          · exact q3 (Or.inl (by rw [z, q]))
      have hl : lotM (mclS M0 i) j (nC (mclS M0 i)) = 0 := by
        rw [FnC]
        have e9 : lotM (mclS M0 i) j (nC S) = smN (fun _ => 0) (nC S) := smN_cong (fun c hc => if_neg (ho c hc))
        rw [e9]
        have h0 : ∀ m, smN (fun _ => 0) m = 0 := fun m => by
          induction m with
          | zero => rfl
          | succ m ih => show smN (fun _ => 0) m + 0 = 0; omega
        exact h0 _
      unfold RCi
      rw [x1, x2, x6, hl]
      exact ⟨⟨Int.le_refl _, hM6, rfl⟩, fun k hk => by omega, fun k k' a b => by omega, fun c hc z => absurd z (ho c (by rw [← FnC]; exact hc))⟩
    · have q1 : ¬ (j < cN S ∧ S 4 j 3 = 1) := fun z => q (Or.inl z)
      have q2 : ¬ j = i := fun z => q (Or.inr z)
      have x1 : mclS M0 i 4 j 1 = S 4 j 1 := by rw [f4, if_neg q1, if_neg (fun z => q2 z.1), kC.1 j 1 (by omega) (by omega) (by omega) (by omega) (by omega)]
      have x2 : mclS M0 i 4 j 2 = S 4 j 2 := by rw [f4, if_neg q1, if_neg (fun z => q2 z.1), kC.1 j 2 (by omega) (by omega) (by omega) (by omega) (by omega)]
      have ho : ∀ c, c < nC S → (mclS M0 i 21 0 c = j ↔ S 21 0 c = j) := fun c hc => by
        rw [F21 c hc]
        by_cases q3 : S 21 0 c = i ∨ (0 ≤ S 21 0 c ∧ (S 21 0 c).toNat < cN S ∧ S 4 (S 21 0 c).toNat 3 = 1)
        · rw [if_pos q3]
          refine ⟨fun z => by omega, fun z => ?_⟩
          exfalso
          rcases q3 with q3 | q3
          · omega
          · rw [z] at q3
            exact q1 ⟨by omega, by simpa using q3.2.2⟩
        · rw [if_neg q3]
      have hl : lotM (mclS M0 i) j (nC S) = lotM S j (nC S) := smN_cong (fun c hc => by
        show (if mclS M0 i 21 0 c = j then mclS M0 i 22 0 c else 0) = (if S 21 0 c = j then S 22 0 c else 0)
        rw [F22]
        by_cases q4 : S 21 0 c = j
        · rw [if_pos q4, if_pos ((ho c hc).mpr q4)]
        · rw [if_neg q4, if_neg (fun z => q4 ((ho c hc).mp z))])
      unfold RCi
      rw [x1, x2, x6, FnC, hl, F22, F23, FC 5 (by omega), cls_t (by omega) (by omega) (by omega) (by omega) (by omega)]
      exact ⟨hs.1, fun k hk => ⟨(hs.2.1 k hk).1, (ho _ (hs.2.1 k hk).1).mpr (hs.2.1 k hk).2.1, (hs.2.1 k hk).2.2⟩, hs.2.2.1, fun c hc z => hs.2.2.2 c hc ((ho c hc).mp z)⟩
  · rw [FnC] at hc
    have hx := h.rx c hc
    have hN1 := hN.1
    rw [F22, F23, F13, F9, F21 c hc]
    refine ⟨hx.1, hx.2.1, ?_⟩
    split
    · omega
    · exact hx.2.2
  · rw [F14]
    have := h.rt.1
    omega
  · rw [F13]
    have := h.rt.2.1
    omega
  · rw [f06]
    have := h.rt.2.2.1
    omega
  · have h9 := h.rt.2.2.2 j hj
    have a10 := cl2_10 h.ci hi hj
    have a11 := hw11 j hj
    have b11 : cl2 S i 4 j 11 = cl1 S 4 j 11 := cl2_11
    have x10 : mclS M0 i 4 j 10 = cl2 S i 4 j 10 := by rw [f4]; simp [zf5]
    have x11 : mclS M0 i 4 j 11 = cl2 S i 4 j 11 := by rw [f4]; simp [zf5]
    rw [x10, x11, b11]
    omega
end CL4
