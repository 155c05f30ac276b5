/-! ===== close: the chain of what eats the loss, two sides ===== -/
section CHAIN
theorem sh_R2 {C M : St} (h : R2 C M) (hc : CI C) (hm : mI M) {a : Int} (ha : 0 ≤ a ∧ a ≤ 100000000) (j : Int) : R2 (eaSh C a j).1 (msh M a j).1 ∧ (eaSh C a j).2 = (msh M a j).2 := by
  have hn10 := nM_le hm.1.1
  have hp := prS_pM h hc (wC := shW C j) (bC := fun i => C 4 i 5) (wM := mshW M j) (bM := mshW M j) (a := a) (fun k hk => by
    have hF := h.2.1 k (by omega)
    have hac := h.act (i := k) (by omega)
    unfold shW mshW
    by_cases q : actv C k ∧ C 4 k 9 = j
    · rw [if_pos q, if_pos ⟨hac.mp q.1, by rw [← hF.2.2.2.2.2.2.1]; exact q.2⟩]
      exact ⟨hF.2.2.1, fun _ => hF.2.2.1⟩
    · rw [if_neg q, if_neg (fun z => q ⟨hac.mpr z.1, by rw [hF.2.2.2.2.2.2.1]; exact z.2⟩)]
      exact ⟨rfl, fun z => by omega⟩) (shW_ok hc j) (mshW_ok hm.1.1 hm.2.1 j) ha
  refine ⟨eat_R2 h (fun i hi => ?_) (Or.inl ⟨rfl, rfl⟩), hp.2⟩
  have hF := h.2.1 i (by omega)
  have e := hp.1 i hi
  show C 4 i 5 - _ = M 13 0 i - _
  rw [e, hF.2.2.1]
theorem as_R2 {C M : St} (h : R2 C M) (hc : CI C) (hm : mI M) {a : Int} (ha : 0 ≤ a ∧ a ≤ 100000000) : R2 (eaAs C a).1 (mas M a).1 ∧ (eaAs C a).2 = (mas M a).2 := by
  have hn10 := nM_le hm.1.1
  have hw : ∀ k, k < nM M → asW C k = masW M k := fun k hk => by
    have hF := h.2.1 k (by omega)
    have hac := h.act (i := k) (by omega)
    unfold asW masW
    by_cases q : actv C k
    · rw [if_pos q, if_pos (hac.mp q)]
      exact hF.2.2.2.2.2.2.2.2.2
    · rw [if_neg q, if_neg (fun z => q (hac.mpr z))]
  have hp := prS_pM h hc (wC := asW C) (bC := asB C) (wM := masW M) (bM := masB M) (a := a) (fun k hk => by
    have hF := h.2.1 k (by omega)
    refine ⟨hw k hk, fun _ => ?_⟩
    unfold asB masB
    rw [hw k hk, hF.1]) (asW_ok hc) (masW_ok hm.1.1 hm.2.1) ha
  refine ⟨eat_R2 h (fun i hi => ?_) (Or.inr (Or.inr ⟨rfl, rfl⟩)), hp.2⟩
  have hF := h.2.1 i (by omega)
  have e := hp.1 i hi
  show C 4 i 10 + _ = M 19 0 i + _
  rw [e, hF.2.2.2.2.2.2.2.1]
theorem gn_R2 {C M : St} (h : R2 C M) (hc : CI C) (hm : mI M) {a : Int} (ha : 0 ≤ a ∧ a ≤ 100000000) : R2 (eaGn C a).1 (mgn M a).1 ∧ (eaGn C a).2 = (mgn M a).2 := by
  have hn10 := nM_le hm.1.1
  have hp := prS_pM h hc (wC := gnW C) (bC := fun i => C 4 i 7) (wM := mgnW M) (bM := mgnW M) (a := a) (fun k hk => by
    have hF := h.2.1 k (by omega)
    have hac := h.act (i := k) (by omega)
    unfold gnW mgnW
    by_cases q : actv C k
    · rw [if_pos q, if_pos (hac.mp q)]
      exact ⟨hF.2.2.2.2.1, fun _ => hF.2.2.2.2.1⟩
    · rw [if_neg q, if_neg (fun z => q (hac.mpr z))]
      exact ⟨rfl, fun z => by omega⟩) (gnW_ok hc) (mgnW_ok hm.1.1 hm.2.1) ha
  refine ⟨eat_R2 h (fun i hi => ?_) (Or.inr (Or.inl ⟨rfl, rfl⟩)), hp.2⟩
  have hF := h.2.1 i (by omega)
  have e := hp.1 i hi
  show C 4 i 7 - _ = M 15 0 i - _
  rw [e, hF.2.2.2.2.1]
theorem ea_R2 {C M : St} (h : R2 C M) (hc : CI C) (hm : mI M) (h4 : C 0 0 4 = M 11 0 15) (h5 : C 0 0 5 = M 11 0 16) {i : Nat} (hi : i < 10) : R2 (ea4 C i).1 (me4 M i).1 ∧ (ea4 C i).2 = (me4 M i).2 ∧ (ea0 C i).1 0 0 4 = (me0 M i).1 11 0 15 := by
  have hF := h.2.1 i hi
  have hL : 0 ≤ M 11 0 16 ∧ M 11 0 16 ≤ 1000000 := by rw [← h5]; exact hc.2.2.2.1
  have el : lf3 C i = mlf3 M i := by unfold lf3 mlf3; rw [h5, hF.2.1, hF.2.2.1]
  have ep : pd3 C i = mpd3 M i := by unfold pd3 mpd3; rw [el, h4]
  have e0 : (ea0 C i).2 = (me0 M i).2 := by unfold ea0 me0; dsimp only; rw [el, ep]
  have e04 : (ea0 C i).1 0 0 4 = (me0 M i).1 11 0 15 := by show C 0 0 4 - pd3 C i = M 11 0 15 - mpd3 M i; rw [h4, ep]
  have r0 : R2 (ea0 C i).1 (me0 M i).1 := ⟨h.1, h.2.1, h.2.2⟩
  have c0 := ea0_ok hc hi
  have m0 := me0_ok hm hL hi
  have co := ea_ok hc hi
  have mo := me_ok hm hL hi
  have r1 := sh_R2 r0 c0.1 m0.1 (a := (ea0 C i).2) (by omega) 1
  have e1 : me1 M i = msh (me0 M i).1 (ea0 C i).2 1 := by unfold me1; rw [e0]
  have r1' : R2 (ea1 C i).1 (me1 M i).1 ∧ (ea1 C i).2 = (me1 M i).2 := by rw [e1]; exact r1
  have r2 := sh_R2 r1'.1 co.1.1 mo.1.1 (a := (ea1 C i).2) (by omega) 0
  have e2 : me2 M i = msh (me1 M i).1 (ea1 C i).2 0 := by unfold me2; rw [r1'.2]
  have r2' : R2 (ea2 C i).1 (me2 M i).1 ∧ (ea2 C i).2 = (me2 M i).2 := by rw [e2]; exact r2
  have r3 := as_R2 r2'.1 co.2.1.1 mo.2.1.1 (a := (ea2 C i).2) (by omega)
  have e3 : me3 M i = mas (me2 M i).1 (ea2 C i).2 := by unfold me3; rw [r2'.2]
  have r3' : R2 (ea3 C i).1 (me3 M i).1 ∧ (ea3 C i).2 = (me3 M i).2 := by rw [e3]; exact r3
  have r4 := gn_R2 r3'.1 co.2.2.1.1 mo.2.2.1.1 (a := (ea3 C i).2) (by omega)
  have e4 : me4 M i = mgn (me3 M i).1 (ea3 C i).2 := by unfold me4; rw [r3'.2]
  have r4' : R2 (ea4 C i).1 (me4 M i).1 ∧ (ea4 C i).2 = (me4 M i).2 := by rw [e4]; exact r4
  exact ⟨r4'.1, r4'.2, e04⟩
theorem cl1_R2 {C M : St} (h : R2 C M) (hc : CI C) (hm : mI M) (hb : RB2 C M) : R2 (cl1 C) (mcl1 M) ∧ cl1 C 0 0 5 = mcl1 M 11 0 16 ∧ (∀ i, i < 10 → C 4 i 11 ≤ cl1 C 4 i 11 ∧ cl1 C 4 i 11 ≤ C 4 i 11 + 120) := by
  have hA := hc.2.2.2.2.1
  have hA1 := hA.1
  have hn : cN C = nM M := h.n
  have hn10 := nM_le hm.1.1
  have hB := hm.2.2.2.1
  have eL : nB M = (C 2 0 1).toNat := by unfold nB; rw [hb.1]
  obtain ⟨e, r, hw⟩ := aw_eq hb h hm.1.1 hB hA1.2 (C 2 0 1).toNat (by omega)
  have kC := awN_keep C (C 2 0 1).toNat
  have kM := awM_keep M (C 2 0 1).toNat
  have g9 : ∀ i k, cl1 C 4 i k = if k = 9 ∧ i < cN C ∧ actv (awN C (C 2 0 1).toNat).1 i then rkV C i else (awN C (C 2 0 1).toNat).1 4 i k := fun i k => by
    have e1 : rkV (up3 (awN C (C 2 0 1).toNat).1 0 0 5 (max 0 (awN C (C 2 0 1).toNat).2)) i = rkV C i := by
      unfold rkV
      have hpc := poor_c (S := C) (S' := up3 (awN C (C 2 0 1).toNat).1 0 0 5 (max 0 (awN C (C 2 0 1).toNat).2)) (kC.1 2 (by omega)) (kC.1 7 (by omega)) i
      by_cases q : poor C i
      · rw [if_pos q, if_pos (hpc.mpr q)]
      · rw [if_neg q, if_neg (fun z => q (hpc.mp z))]
    by_cases q : k = 9 ∧ i < cN C ∧ actv (awN C (C 2 0 1).toNat).1 i
    · exact (if_pos (⟨rfl, q⟩ : 4 = 4 ∧ k = 9 ∧ i < cN C ∧ actv (awN C (C 2 0 1).toNat).1 i)).trans (e1.trans (if_pos q).symm)
    · exact (if_neg (fun z : 4 = 4 ∧ k = 9 ∧ i < cN C ∧ actv (awN C (C 2 0 1).toNat).1 i => q z.2)).trans (if_neg q).symm
  have g18 : ∀ k, mcl1 M 18 0 k = if k < nM M ∧ mact (awM M (C 2 0 1).toNat).1 k then mpV M k else (awM M (C 2 0 1).toNat).1 18 0 k := fun k => by
    have e1 : mpV (awM M (nB M)).1 k = mpV M k := mpV_c (by rw [awM_keep M (nB M) 24 (by omega)]) (by rw [awM_keep M (nB M) 11 (by omega)]) k
    rw [← eL]
    by_cases q : k < nM M ∧ mact (awM M (nB M)).1 k
    · exact (if_pos (⟨rfl, rfl, q⟩ : 18 = 18 ∧ 0 = 0 ∧ k < nM M ∧ mact (awM M (nB M)).1 k)).trans (e1.trans (if_pos q).symm)
    · exact (if_neg (fun z : 18 = 18 ∧ 0 = 0 ∧ k < nM M ∧ mact (awM M (nB M)).1 k => q z.2.2)).trans (if_neg q).symm
  have gT : ∀ t k, t ≠ 11 → t ≠ 18 → mcl1 M t 0 k = (awM M (C 2 0 1).toNat).1 t 0 k := fun t k a b => by
    rw [← eL]
    show up3 (rkM (awM M (nB M)).1 (nM M)) 11 0 16 _ t 0 k = _
    unfold up3 rkM
    rw [if_neg (fun z => a z.1), if_neg (fun z => b z.1)]
  refine ⟨⟨?_, fun i hi => ?_, fun k hk hck => ?_⟩, ?_, fun i hi => ?_⟩
  · have e1 : mcl1 M 11 0 9 = M 11 0 9 := by
      show rkM (awM M (nB M)).1 (nM M) 11 0 9 = _
      show (awM M (nB M)).1 11 0 9 = _
      rw [awM_keep M (nB M) 11 (by omega)]
    rw [e1]
    show (awN C (C 2 0 1).toNat).1 0 0 3 = _
    rw [kC.1 0 (by omega)]
    exact h.1
  · have hF := r.2.1 i hi
    unfold RF2 at hF ⊢
    rw [g9 i 3, g9 i 4, g9 i 5, g9 i 6, g9 i 7, g9 i 8, g9 i 9, g9 i 10, g9 i 11, g9 i 12, g18 i, gT 17 i (by omega) (by omega), gT 12 i (by omega) (by omega), gT 13 i (by omega) (by omega), gT 14 i (by omega) (by omega), gT 15 i (by omega) (by omega), gT 16 i (by omega) (by omega), gT 19 i (by omega) (by omega), gT 20 i (by omega) (by omega), gT 25 i (by omega) (by omega)]
    simp only [show ((3 : Nat) = 9) = False by decide, show ((4 : Nat) = 9) = False by decide, show ((5 : Nat) = 9) = False by decide, show ((6 : Nat) = 9) = False by decide, show ((7 : Nat) = 9) = False by decide, show ((8 : Nat) = 9) = False by decide, show ((10 : Nat) = 9) = False by decide, show ((11 : Nat) = 9) = False by decide, show ((12 : Nat) = 9) = False by decide, false_and, if_false, true_and]
    refine ⟨hF.1, hF.2.1, hF.2.2.1, hF.2.2.2.1, hF.2.2.2.2.1, hF.2.2.2.2.2.1, ?_, hF.2.2.2.2.2.2.2⟩
    have hac := r.act (i := i) hi
    by_cases q : i < cN C ∧ actv (awN C (C 2 0 1).toNat).1 i
    · rw [if_pos q, if_pos ⟨by omega, hac.mp q.2⟩]
      exact rk_eq hb h.1 hm.1.1 hB (by omega) hA1
    · rw [if_neg q, if_neg (fun z => q ⟨by omega, hac.mpr z.2⟩)]
      exact hF.2.2.2.2.2.2.1
  · have h3 := h.2.2 k hk (by
      have : (awN C (C 2 0 1).toNat).1 0 0 3 ≤ k := hck
      rw [kC.1 0 (by omega)] at this
      exact this)
    rw [g9 k 12, if_neg (by omega), kC.2 k 12 (by omega)]
    refine ⟨?_, h3.2⟩
    show (awN C (C 2 0 1).toNat).1 8 0 k = 0
    rw [kC.1 8 (by omega)]
    exact h3.1
  · show max 0 (awN C (C 2 0 1).toNat).2 = (if (awM M (nB M)).2 < 0 then 0 else (awM M (nB M)).2)
    rw [eL, ← e]
    split <;> omega
  · have h3 := hw i hi
    rw [g9 i 11, if_neg (by omega)]
    omega
end CHAIN
