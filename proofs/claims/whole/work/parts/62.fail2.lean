/-! ===== fail keeps the relation ===== -/
section FAIL2
theorem aS_t {S : St} {T l t : Nat} {f : Nat → Int} (h : t ≠ T) : aS S T f l t = S t := by
  funext a c
  exact if_neg (fun z => h z.1)
theorem aS_v (S : St) (T l : Nat) (f : Nat → Int) (k : Nat) : aS S T f l T 0 k = if k < l then f k else S T 0 k := by
  by_cases q : k < l
  · rw [if_pos q]
    exact if_pos ⟨rfl, rfl, q⟩
  · rw [if_neg q]
    exact if_neg (fun z => q z.2.2)
theorem fail_Inv {t : Nat} {S Sm : St} (h : Inv t S) (ht : t < 512) {j : Nat} (hj : j < 10) (hjc : (j : Int) < S 0 0 3) {v : Int} (hv : 1 ≤ v ∧ v ≤ 20) (hT : ∀ t', 12 ≤ t' → t' < 29 → Sm t' = S t') (h11 : ∀ c, c ≠ 25 → Sm 11 0 c = S 11 0 c) (hC : ∀ t', t' < 11 → Sm t' = failS S j v t') :
    bookN S j v = mfF Sm j v 11 0 19 ∧ Inv (t + 1) (mfailS Sm j v) ∧ mfailS Sm j v 11 0 25 = 0 ∧ mfailS Sm j v 29 = Sm 29 := by
  have hmI := mI_cong hT h11 h.mi
  obtain ⟨s, hs⟩ := h.rc j hj
  have hMj := h.ci.mem hj
  have hr1 := h.rt.1
  have hr2 := h.rt.2.1
  have hnS : nC Sm = nC S := by unfold nC; rw [h11 14 (by omega)]
  have hnM : nM Sm = nM S := by unfold nM; rw [h11 9 (by omega)]
  have hlotm : ∀ i : Nat, lotM Sm i (nC S) = lotM S i (nC S) := fun i => by unfold lotM; rw [hT 21 (by omega) (by omega), hT 22 (by omega) (by omega)]
  have hlm : lotM Sm j (nC Sm) ≤ 100 := by
    rw [hnS, hlotm, ← hs.1.2.2]
    exact hMj.2.1.2
  have hcame : Sm 11 0 13 ≤ 900000 := by rw [h11 13 (by omega)]; omega
  have hA := mfl_inv hmI hj hv hlm hcame
  have hFf := mfF_inv hmI hj hv hlm hcame
  have hna : ¬ actv (flS S j) j := by
    unfold actv
    rw [fl_4, if_pos ⟨rfl, rfl⟩]
    omega
  have mt : ∀ t', t' ≠ 11 → t' ≠ 17 → mfl Sm j v t' = Sm t' := fun t' a c => by
    unfold mfl thr
    rw [up3_t a, up3_t a, up3_t c, up3_t a]
  have m17 : ∀ i, mfl Sm j v 17 0 i = if i = j then 2 else S 17 0 i := fun i => by
    unfold mfl
    rw [up3_t (by omega), up3_t (by omega)]
    by_cases q : i = j
    · rw [if_pos q, q]
      exact up3_at
    · rw [if_neg q, up3_k q]
      unfold thr
      rw [up3_t (by omega), hT 17 (by omega) (by omega)]
  have m11 : ∀ c, c ≠ 18 → c ≠ 19 → c ≠ 25 → mfl Sm j v 11 0 c = S 11 0 c := fun c a b d => by
    unfold mfl thr
    rw [up3_k b, up3_k a, up3_t (by omega), up3_k d, h11 c d]
  have hM0n : nC (mfl Sm j v) = nC S := by rw [hA.2.1, hnS]
  have c0 : ∀ i k, k ≠ 3 → k ≠ 12 → flS S j 4 i k = S 4 i k := fun i k a b => by rw [fl_4, if_neg (fun z => a z.2), if_neg (fun z => b z.1)]
  have c5 : flS S j 5 = S 5 := fl_t (by omega) (by omega)
  have h21 : mfl Sm j v 21 = S 21 := by rw [mt 21 (by omega) (by omega), hT 21 (by omega) (by omega)]
  have h22 : mfl Sm j v 22 = S 22 := by rw [mt 22 (by omega) (by omega), hT 22 (by omega) (by omega)]
  have h23 : mfl Sm j v 23 = S 23 := by rw [mt 23 (by omega) (by omega), hT 23 (by omega) (by omega)]
  have hl2 : ∀ i : Nat, lotM (mfl Sm j v) i (nC S) = lotM S i (nC S) := fun i => by unfold lotM; rw [h21, h22]
  have hcn := h.ci.cnt
  have hMV : MV (mvN (flS S j) j 0).1 (mfl Sm j v) j s 0 := by
    show MV (flS S j) (mfl Sm j v) j s 0
    refine ⟨⟨by rw [fl_0, if_neg (by omega), m11 9 (by omega) (by omega) (by omega)]; exact h.cnt, by rw [m11 9 (by omega) (by omega) (by omega), ← h.cnt]; exact hcn⟩, fun i hi => ?_, fun i hi => ?_, flS_MI h.ci j, fun i hi hij => ?_, ⟨fun q _ hq => ?_, fun q q' _ a b => ?_, fun c hc hcz => ?_⟩, fun c hc => ?_, hna, fun i hi hic hij => ?_⟩
    · have e := (h.rf hi).1
      unfold actv mact
      rw [fl_4, m17]
      by_cases q : i = j
      · rw [if_pos ⟨q, rfl⟩, if_pos q]
      · rw [if_neg (fun z => q z.1), if_neg q, if_neg (fun z => by omega), e]
    · rw [c0 i 6 (by omega) (by omega), mt 14 (by omega) (by omega), hT 14 (by omega) (by omega)]
      exact (h.rf hi).2.2.2.1
    · obtain ⟨s', hs'⟩ := h.rc i hi
      refine ⟨s', ?_⟩
      unfold RCi2
      rw [c0 i 1 (by omega) (by omega), c0 i 2 (by omega) (by omega), c0 i 6 (by omega) (by omega), hM0n, hl2, h21, h22, h23, c5]
      exact hs'
    · rw [c0 j 1 (by omega) (by omega)] at hq
      rw [hM0n, h21, h22, c5]
      exact hs.2.1 q hq
    · rw [c0 j 1 (by omega) (by omega)] at b
      rw [h23]
      exact hs.2.2.1 q q' a b
    · rw [hM0n] at hc
      rw [h21] at hcz
      obtain ⟨q, hq, eq⟩ := hs.2.2.2 c hc hcz
      exact ⟨q, Nat.zero_le _, by rw [c0 j 1 (by omega) (by omega)]; exact hq, eq⟩
    · rw [hM0n] at hc
      rw [h21, h22, h23, m11 13 (by omega) (by omega) (by omega), m11 9 (by omega) (by omega) (by omega)]
      exact h.rx c hc
    · rw [fl_0, if_neg (by omega)] at hic
      rw [c0 i 2 (by omega) (by omega)]
      exact (h.rz i hi hic).2.2
  have hall := MV_all (C0 := flS S j) hj (v := v) (came := S 11 0 13) (ocN (mfl Sm j v) j (nC Sm)) 0 (mfl Sm j v) hMV rfl rfl (by rw [c0 j 1 (by omega) (by omega)]; exact hMj.1.1) (by
    show mfl Sm j v 11 0 19 = v + 0
    have e : mfl Sm j v 11 0 19 = v := up3_at
    rw [e]
    omega) (by rw [m11 13 (by omega) (by omega) (by omega)]; omega) (by rw [hA.2.1]; exact hFf.2)
  have eF : mfN j (ocN (mfl Sm j v) j (nC Sm)) (mfl Sm j v) = mfF Sm j v := rfl
  rw [eF] at hall
  obtain ⟨⟨_, g2, g3, g4, g5, g6, g7, _, g9⟩, hbk, hcm⟩ := hall
  have hbook : bookN S j v = mfF Sm j v 11 0 19 := hbk.symm
  refine ⟨hbook, ?_⟩
  obtain ⟨k1, k2, k3, k4, k5⟩ := hFf.1
  have hnoown := hFf.2
  generalize hM' : mfF Sm j v = M' at *
  have hlr := lotM_rng k3 j (nC S) (by have := h.mi.1; unfold mN at this; unfold nC; omega)
  rw [hM0n] at k5
  have hB120 : 0 ≤ M' 11 0 19 ∧ M' 11 0 19 ≤ 120 := by omega
  have hF : mfailS Sm j v = aS (aS M' 25 (fun k => if k < nM Sm then Sm 13 0 k else 0) 10) 24 (fun _ => 5000) (10 * nB M') := by
    unfold mfailS
    rw [hM']
  rw [hF]
  generalize hFF : aS (aS M' 25 (fun k => if k < nM Sm then Sm 13 0 k else 0) 10) 24 (fun _ => 5000) (10 * nB M') = F
  have Ft : ∀ t', t' ≠ 24 → t' ≠ 25 → F t' = M' t' := fun t' a b => by rw [← hFF, aS_t a, aS_t b]
  have Fs : ∀ t', t' ≠ 24 → t' ≠ 25 → t' ≠ 11 → t' ≠ 21 → t' ≠ 23 → t' ≠ 17 → F t' = Sm t' := fun t' a b c d e f => by rw [Ft t' a b, k1 t' c d e, mt t' c f]
  have FC : ∀ t', t' < 11 → F t' = failS S j v t' := fun t' a => by rw [Fs t' (by omega) (by omega) (by omega) (by omega) (by omega) (by omega), hC t' a]
  have F11 : ∀ c, c ≠ 13 → c ≠ 18 → c ≠ 19 → c ≠ 25 → F 11 0 c = S 11 0 c := fun c a b d e => by rw [Ft 11 (by omega) (by omega), k2 c a d, m11 c b d e]
  have F25c : F 11 0 25 = 0 := by
    rw [Ft 11 (by omega) (by omega), k2 25 (by omega) (by omega)]
    unfold mfl thr
    rw [up3_k (by omega), up3_k (by omega), up3_t (by omega)]
    exact up3_at
  have F18 : F 11 0 18 = j := by
    rw [Ft 11 (by omega) (by omega), k2 18 (by omega) (by omega)]
    unfold mfl
    rw [up3_k (by omega)]
    exact up3_at
  refine ⟨?_, F25c, Fs 29 (by omega) (by omega) (by omega) (by omega) (by omega) (by omega)⟩
  have f00 : ∀ k, F 0 0 k = if k = 7 then (j : Int) else S 0 0 k := fun k => by rw [FC 0 (by omega), fail_0 hna]
  have f4 : ∀ i k, F 4 i k = if i = j ∧ (k = 1 ∨ k = 2) then 0 else (mvN (flS S j) j (flS S j 4 j 1).toNat).1 4 i k := fun i k => by rw [FC 4 (by omega), fail_4]
  have f4b : ∀ i k, k ≠ 1 → k ≠ 2 → F 4 i k = flS S j 4 i k := fun i k a b => by rw [f4, if_neg (fun z => by omega), (mvN_keep hna _).2.1 i k a b]
  have f4c : ∀ i k, k ≠ 1 → k ≠ 2 → k ≠ 3 → k ≠ 12 → F 4 i k = S 4 i k := fun i k a b c d => by rw [f4b i k a b, c0 i k c d]
  have hci : CI F := CI_cong FC (CI_fail h.ci hj hv.1 hna)
  have F19 : F 11 0 19 = M' 11 0 19 := by rw [Ft 11 (by omega) (by omega)]
  have F2 : F 2 0 1 = M' 11 0 19 := by
    rw [FC 2 (by omega), fail_2, hbook]
    omega
  have hrs : RS F := by
    refine ⟨?_, ?_, ?_, ?_, ?_⟩
    · rw [f00, if_neg (by omega), F11 9 (by omega) (by omega) (by omega) (by omega)]; exact h.rs.1
    · rw [f00, if_neg (by omega), F11 15 (by omega) (by omega) (by omega) (by omega)]; exact h.rs.2.1
    · rw [f00, if_neg (by omega), F11 16 (by omega) (by omega) (by omega) (by omega)]; exact h.rs.2.2.1
    · rw [f00, if_neg (by omega), F11 17 (by omega) (by omega) (by omega) (by omega)]; exact h.rs.2.2.2.1
    · rw [f00, if_pos rfl, F18]
  have hRF : ∀ i, i < 10 → RFi F i := fun i hi => by
    have hR := h.rf hi
    unfold RFi at hR ⊢
    have x17 : F 17 0 i = if i = j then 2 else S 17 0 i := by rw [Ft 17 (by omega) (by omega), k1 17 (by omega) (by omega) (by omega), m17]
    have x25 : F 25 0 i = if i < nM S then S 13 0 i else 0 := by
      rw [← hFF, aS_t (by omega), aS_v, if_pos hi, hnM, hT 13 (by omega) (by omega)]
    have y : ∀ t', 12 ≤ t' → t' < 21 → t' ≠ 17 → F t' = S t' := fun t' a b c => by rw [Fs t' (by omega) (by omega) (by omega) (by omega) (by omega) c, hT t' a (by omega)]
    rw [f4b i 3 (by omega) (by omega), f4c i 4 (by omega) (by omega) (by omega) (by omega), f4c i 5 (by omega) (by omega) (by omega) (by omega), f4c i 6 (by omega) (by omega) (by omega) (by omega), f4c i 7 (by omega) (by omega) (by omega) (by omega), f4c i 8 (by omega) (by omega) (by omega) (by omega), f4c i 9 (by omega) (by omega) (by omega) (by omega), f4c i 10 (by omega) (by omega) (by omega) (by omega), f4c i 11 (by omega) (by omega) (by omega) (by omega), f4b i 12 (by omega) (by omega), x17, x25, y 12 (by omega) (by omega) (by omega), y 13 (by omega) (by omega) (by omega), y 14 (by omega) (by omega) (by omega), y 15 (by omega) (by omega) (by omega), y 16 (by omega) (by omega) (by omega), y 18 (by omega) (by omega) (by omega), y 19 (by omega) (by omega) (by omega), y 20 (by omega) (by omega) (by omega), fl_4, fl_4]
    refine ⟨?_, hR.2.1, hR.2.2.1, hR.2.2.2.1, hR.2.2.2.2.1, hR.2.2.2.2.2.1, hR.2.2.2.2.2.2.1, hR.2.2.2.2.2.2.2.1, hR.2.2.2.2.2.2.2.2.1, ?_⟩
    · by_cases q : i = j
      · rw [if_pos ⟨q, rfl⟩, if_pos q]
      · rw [if_neg (fun z => q z.1), if_neg q, if_neg (fun z => by omega)]
        exact hR.1
    · have hcm : cN S = nM S := h.r2.n
      rw [if_neg (fun z => by omega)]
      by_cases q : i < nM S
      · rw [if_pos ⟨rfl, by omega⟩, if_pos q]
        exact hR.2.2.1
      · rw [if_neg (fun z => q (by omega)), if_neg q]
        exact (h.rz i hi (by unfold cN at hcm; omega)).2.1
  have hN := h.mi.1
  unfold mN at hN
  have F13 : F 11 0 13 = S 11 0 13 + S 4 j 1 := by
    rw [Ft 11 (by omega) (by omega), hcm, c0 j 1 (by omega) (by omega)]
  have F14 := F11 14 (by omega) (by omega) (by omega) (by omega)
  have F9 := F11 9 (by omega) (by omega) (by omega) (by omega)
  have FnC : nC F = nC S := by unfold nC; rw [F14]
  have hM'n : nC M' = nC S := by
    unfold nC
    rw [← F14, Ft 11 (by omega) (by omega)]
  have hc100 := hMj.1
  have hO : mO F := by
    unfold mO at k3 ⊢
    rw [Ft 21 (by omega) (by omega), Ft 22 (by omega) (by omega), Ft 23 (by omega) (by omega)]
    exact k3
  have hB : mB F := fun k hk => by
    rw [← hFF, aS_v, aS_t (by omega)]
    have h9 := h.mi.2.2.2.1 k hk
    by_cases q : k < 10 * nB M'
    · rw [if_pos q]; omega
    · rw [if_neg q, k1 24 (by omega) (by omega) (by omega), mt 24 (by omega) (by omega), hT 24 (by omega) (by omega)]
      exact h9
  have hP : mP F := by
    unfold mP
    rw [Fs 26 (by omega) (by omega) (by omega) (by omega) (by omega) (by omega), Fs 27 (by omega) (by omega) (by omega) (by omega) (by omega) (by omega), Fs 28 (by omega) (by omega) (by omega) (by omega) (by omega) (by omega), hT 26 (by omega) (by omega), hT 27 (by omega) (by omega), hT 28 (by omega) (by omega)]
    exact h.mi.2.2.2.2
  refine ⟨hci, mI_of hci hRF hrs (by rw [F13]; omega) (by rw [F14]; exact hN.2.2.1) (by rw [F19]; exact hB120) hO hB hP, hrs, hRF, fun _ => ⟨by rw [F2, F19], fun i hi l hl => ?_⟩, fun k hk hck => ?_, fun i hi => ?_, fun c hc => ?_, ⟨by rw [F14]; omega, by rw [F13]; omega, ?_, fun i hi => ?_⟩, fun _ => ?_⟩
  · rw [F2] at hl
    have e7 : F 7 i l = -1001 := by
      rw [FC 7 (by omega)]
      have e : failS S j v 7 i l = if l < (min (bookN S j v) 120).toNat then -1001 else (movS (flS S j) j).1 7 i l := op_7v hi
      rw [e, if_pos (by rw [hbook]; omega)]
    have e24 : F 24 0 (10 * l + i) = 5000 := by
      rw [← hFF, aS_v, if_pos (by unfold nB; omega)]
    rw [e7, e24]
    exact ⟨rfl, fun _ => rfl⟩
  · rw [f00, if_neg (by omega)] at hck
    have h9 := h.rz k hk hck
    have hkj : k ≠ j := fun w => by omega
    refine ⟨?_, ?_, ?_⟩
    · rw [FC 8 (by omega), fail_t hna (by omega) (by omega) (by omega) (by omega) (by omega)]
      exact h9.1
    · rw [f4b k 12 (by omega) (by omega), fl_4, if_neg (fun z => hkj z.1), if_neg (fun z => by have := z.2; unfold cN at this; omega)]
      exact h9.2.1
    · rw [f4, if_neg (fun z => hkj z.1)]
      exact g9 k hk (by rw [(mvN_keep hna _).1 0 (by omega) (by omega), fl_0, if_neg (by omega)]; exact hck) hkj
  · by_cases q : i = j
    · subst q
      refine ⟨s, ?_⟩
      have x1 : F 4 i 1 = 0 := by rw [f4, if_pos ⟨rfl, Or.inl rfl⟩]
      have x2 : F 4 i 2 = 0 := by rw [f4, if_pos ⟨rfl, Or.inr rfl⟩]
      have x6 : F 4 i 6 = S 4 i 6 := f4c i 6 (by omega) (by omega) (by omega) (by omega)
      have ho : ∀ c, c < nC S → F 21 0 c ≠ i := fun c hc w => by
        rw [Ft 21 (by omega) (by omega)] at w
        rw [hnS] at hnoown
        rcases foN_rng M' i (nC S) with ⟨_, hn⟩ | ⟨q9, e9, _⟩
        · exact hn c hc w
        · omega
      have hl : lotM F i (nC S) = 0 := by
        have e9 : lotM F i (nC S) = smN (fun _ => 0) (nC S) := smN_cong (fun c hc => if_neg (ho c hc))
        rw [e9]
        have h0 : ∀ m, smN (fun _ => 0) m = 0 := fun m => by
          induction m with
          | zero => rfl
          | succ m ih => show smN (fun _ => 0) m + 0 = 0; omega
        exact h0 _
      unfold RCi
      rw [x1, x2, x6, FnC, hl]
      exact ⟨⟨Int.le_refl _, hMj.2.2.2.2.2.1.1, rfl⟩, fun k hk => by omega, fun k k' a b => by omega, fun c hc w => absurd w (ho c hc)⟩
    · obtain ⟨s', hs'⟩ := g5 i hi q
      refine ⟨s', ?_⟩
      unfold RCi2 at hs'
      have x : ∀ k, F 4 i k = (mvN (flS S j) j (flS S j 4 j 1).toNat).1 4 i k := fun k => by rw [f4, if_neg (fun z => q z.1)]
      have x5 : F 5 = (mvN (flS S j) j (flS S j 4 j 1).toNat).1 5 := by rw [FC 5 (by omega), fail_5]
      have xl : lotM F i (nC S) = lotM M' i (nC S) := by unfold lotM; rw [Ft 21 (by omega) (by omega), Ft 22 (by omega) (by omega)]
      rw [hM'n] at hs'
      unfold RCi
      rw [x 1, x 2, x 6, x5, FnC, xl, Ft 21 (by omega) (by omega), Ft 22 (by omega) (by omega), Ft 23 (by omega) (by omega)]
      exact hs'
  · rw [FnC] at hc
    have hx := g7 c (by rw [hM'n]; exact hc)
    rw [Ft 21 (by omega) (by omega), Ft 22 (by omega) (by omega), Ft 23 (by omega) (by omega), Ft 11 (by omega) (by omega)]
    exact hx
  · rw [f00, if_neg (by omega)]
    have := h.rt.2.2.1
    omega
  · rw [f4c i 10 (by omega) (by omega) (by omega) (by omega), f4c i 11 (by omega) (by omega) (by omega) (by omega)]
    have := h.rt.2.2.2 i hi
    omega
  · rw [f00, if_pos rfl]
    have e : ((j : Int)).toNat = j := by omega
    rw [e, f4b j 3 (by omega) (by omega), fl_4, if_pos ⟨rfl, rfl⟩]
end FAIL2
