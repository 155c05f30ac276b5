/-! ===== size: two sides ===== -/
theorem need_eq {C M : St} (h : R2 C M) (hc : CI C) : need C = mneed M := by
  have hn : cN C = nM M := h.n
  have hc3 := hc.1
  have hn10 : cN C ≤ 10 := by unfold cN; omega
  have e := nd_eq (f := tsF C) (f' := mtsF M) (cN C) (fun k hk => by
    have h1 := tsF_ok hc k (by omega)
    have hF := h.2.1 k (by omega)
    refine ⟨?_, h1.1⟩
    unfold tsF mtsF
    by_cases q : actv C k
    · rw [if_pos q, if_pos ((h.act (by omega)).mp q)]
      exact hF.2.2.2.2.2.1
    · rw [if_neg q, if_neg (fun z => q ((h.act (by omega)).mpr z))])
  unfold need mneed
  rw [← hn, ← e.1]
theorem sz_eq {C M : St} (h : R2 C M) (hc : CI C) (hm : mI M) : ∀ k, k < nM M → grw C k = mgrw M k := by
  have hn : cN C = nM M := h.n
  have hc3 := hc.1
  have hn10 : nM M ≤ 10 := by rw [← hn]; unfold cN; omega
  have hne := need_eq h hc
  have hno := need_ok hc
  have hsC := szW_ok hc
  have hw : ∀ k, k < nM M → szW C k = mszW M k := fun k hk => by
    have hF := h.2.1 k (by omega)
    unfold szW mszW
    by_cases q : actv C k
    · rw [if_pos q, if_pos ((h.act (by omega)).mp q)]
      exact hF.2.1
    · rw [if_neg q, if_neg (fun z => q ((h.act (by omega)).mpr z))]
  have hp := prS_pM (bC := fun _ => need C) (bM := fun _ => need C) (a := need C) h hc (fun k hk => ⟨hw k hk, fun _ => rfl⟩) hsC (fun k hk => by rw [← hw k hk]; exact hsC k (by omega)) (by omega)
  have hv1 : okV (entM M (mszW M) (fun _ => need C) (nM M) 26 0) (fun _ => need C) (nM M) (need C) := ⟨fun k hk => by rw [entM_26 hk, ← hw k hk]; exact hsC k (by omega), by omega⟩
  have hv2 : okV (entM M (mszW M) (fun _ => need C) (nM M) 26 0) (fun _ => 4000000) (nM M) (need C) := ⟨fun k hk => by rw [entM_26 hk, ← hw k hk]; exact ⟨(hsC k (by omega)).1, by show (0 : Int) ≤ 4000000 ∧ (4000000 : Int) ≤ 100000000; omega⟩, by omega⟩
  intro k hk
  have hF := h.2.1 k (by omega)
  have e1 := hp.1 k hk
  have e2 : pM M (mszW M) (fun _ => need C) (need C) k = pM M (mszW M) (fun _ => 4000000) (mneed M) k := by
    rw [← hne]
    have w1 : entM M (mszW M) (fun _ => need C) (nM M) 26 0 = entM M (mszW M) (fun _ => 4000000) (nM M) 26 0 := rfl
    have g1 := (fn_bw (w := entM M (mszW M) (fun _ => need C) (nM M) 26 0) (b := entM M (mszW M) (fun _ => need C) (nM M) 27 0) (b' := fun _ => need C) (po := M 28 0) (a := need C) (n := nM M) (fun j hj _ => entM_27 hj) ⟨fun j hj => by rw [entM_27 hj]; exact hv1.1 j hj, hv1.2⟩ hv1).1
    have g2 := fn_ab (w := entM M (mszW M) (fun _ => need C) (nM M) 26 0) hn10 (po := M 28 0) hv1 hv2 (fun j hj => ⟨Int.le_refl _, by omega⟩)
    have g3 := (fn_bw (w := entM M (mszW M) (fun _ => need C) (nM M) 26 0) (b := fun _ => 4000000) (b' := entM M (mszW M) (fun _ => 4000000) (nM M) 27 0) (po := M 28 0) (a := need C) (n := nM M) (fun j hj _ => (entM_27 (S := M) (w := mszW M) (b := fun _ => 4000000) hj).symm) hv2 ⟨fun j hj => by rw [entM_27 hj]; exact hv2.1 j hj, hv2.2⟩).1
    show fnM _ _ _ _ _ k = fnM _ _ _ _ _ k
    rw [g1, g2, g3, w1]
  unfold grw mgrw
  rw [e1, e2, hF.2.2.1]
  by_cases q : M 13 0 k < pM M (mszW M) (fun _ => 4000000) (mneed M) k
  · rw [if_pos q]
    omega
  · rw [if_neg q]
    omega
theorem CI_sz {S : St} (hI : CI S) : CI (szS S) ∧ (∀ i, i < cN S → 0 ≤ grw S i ∧ grw S i ≤ 2000000) := by
  have hw := szW_ok hI
  have hno := need_ok hI
  have hp := partR_ok (po := S 10 0) (okW_ent (l := cN S) hI.2.2.2.2.2.1 hw (by omega : 0 ≤ need S ∧ need S ≤ 100000000))
  have hc3 := hI.1
  have hcn : cN S ≤ 10 := by unfold cN; omega
  have hb : ∀ i, i < cN S → (prS S (szW S) (fun _ => need S) (need S)).1 i ≤ need S := fun i hi => by
    have h1 := (hp.1 i (by omega)).2
    have e9 : entS S (szW S) (fun _ => need S) (cN S) 9 0 i = need S := by
      show (if (0 : Nat) = 0 ∧ i < cN S then need S else S 9 0 i) = _
      rw [if_pos ⟨rfl, hi⟩]
    rw [e9] at h1
    exact h1
  have hg : ∀ i, i < cN S → (0 ≤ grw S i ∧ grw S i ≤ 2000000) ∧ S 4 i 5 + grw S i ≤ 2000000 := fun i hi => by
    have h1 := hb i hi
    have hm := hI.mem (show i < 10 by omega)
    unfold MI at hm
    unfold grw
    omega
  refine ⟨CI_eat hI hw (by omega) (Or.inl ⟨rfl, fun i hi => ?_⟩), fun i hi => (hg i hi).1⟩
  have h1 := hg i hi
  have hm := hI.mem (show i < 10 by omega)
  unfold MI at hm
  omega
section SIZE
variable {g : Gl}
theorem op_6 : Op6 g Inv := fun t S ht hI Rt hk => by
  have hc := hI.cnt
  have hf7 := hI.rs.2.2.2.2
  have hmN := hI.mi.1
  unfold mN at hmN
  have hn := hI.r2.n
  have hn10 := nM_le hI.mi.1.1
  refine w_size (Ret := Rt) (fun R9 T9 q0 q1 => cn_size hI.ci (fun hf => ?_) (fun hb => ?_))
  · have hCs := CI_sz hI.ci
    have hrg := smN_nn (f := grw S) (B := 2000000) (m := cN S) hCs.2
    have hcn : cN S ≤ 10 := by omega
    have hse := sz_eq hI.r2 hI.ci hI.mi
    have hsum : smN (mgrw S) (nM S) = smN (grw S) (cN S) := by
      rw [← hn]
      exact smN_cong (fun k hk => (hse k (by omega)).symm)
    refine q0 _ _ (by omega) (hk 0 _ (by omega) (fun Rt2 hr => ?_))
    refine m_size (S := up3 (szS S) 29 0 0 (smN (grw S) (cN S))) hI.mi (fun hf2 => ?_) (fun hb => absurd (show S 11 0 18 = -1 by omega) hb)
    have hM0 : mI (thr (up3 (szS S) 29 0 0 (smN (grw S) (cN S))) 0) := hI.mi
    have eM : smN (mgrw (thr (up3 (szS S) 29 0 0 (smN (grw S) (cN S))) 0)) (nM (up3 (szS S) 29 0 0 (smN (grw S) (cN S)))) = smN (mgrw S) (nM S) := rfl
    rw [eM, hsum]
    have hr2 : R2 (szS S) (mszS (thr (up3 (szS S) 29 0 0 (smN (grw S) (cN S))) 0)) := eat_R2 (M := thr (up3 (szS S) 29 0 0 (smN (grw S) (cN S))) 0) hI.r2 (fun i hi => by
      have h1 := hse i hi
      have h2 := (hI.rf (show i < 10 by exact Nat.lt_of_lt_of_le hi hn10)).2.2.1
      show S 4 i 5 + grw S i = S 13 0 i + mgrw S i
      omega) (Or.inl ⟨rfl, rfl⟩)
    have hmw := mszW_ok (S := S) hI.mi.1.1 hI.mi.2.1
    have hmn := mneed_ok (S := S) hI.mi.1.1 hI.mi.2.1
    have hmP : mP (mszS (thr (up3 (szS S) 29 0 0 (smN (grw S) (cN S))) 0)) := mP_pt (S := thr (up3 (szS S) 29 0 0 (smN (grw S) (cN S))) 0) hM0.1.1 hM0.2.2.2.2 hmw (by show 0 ≤ mneed S ∧ mneed S ≤ _; omega) (fun k hk => fnM_out hk)
    have hI2 : Inv (t + 1) (mszS (thr (up3 (szS S) 29 0 0 (smN (grw S) (cN S))) 0)) := by
      refine hI.suc.gen hCs.1 hmP rfl rfl rfl rfl rfl rfl rfl rfl rfl rfl hI.rs rfl (fun i hi => hr2.2.1 i hi) (fun i => ⟨rfl, rfl, rfl⟩) (fun k hk hc9 => ?_) (fun _ => rfl) hI.suc.rt hI.rwf
      have h3 := hr2.2.2 k hk hc9
      exact ⟨h3.1, h3.2, (hI.rz k hk hc9).2.2⟩
    exact hr _ _ (by omega) rfl (fun _ => rfl) hI2
  · refine q1 _ (hk 1 _ (by omega) (fun Rt2 hr => ?_))
    exact m_size hI.mi (fun hf2 => absurd (show S 0 0 7 = -1 by omega) hb) (fun _ => hr _ _ (by omega) rfl (fun w => absurd w (by omega)) hI.suc)
end SIZE
