/-! ===== fail: clients are with others, or in the book ===== -/
def LF (t f : Nat) (b : Int) (S : St) : Prop := LB t S ∧ S 0 0 7 = (f : Int) ∧ (f : Int) < S 0 0 3 ∧ S 4 f 3 = 2 ∧ (∀ i, i < cN S → S 4 i 12 = S 4 i 5) ∧ S 2 0 1 = min b 120 ∧ 1 ≤ b ∧ b ≤ 1000000
section FAILS
variable {X S : St}
theorem mv1_sum (X : St) (lots : Int) : smN (fun q => (mv1 X lots).1 4 q 2) (cN X) + (mv1 X lots).2 = smN (fun q => X 4 q 2) (cN X) + lots := by
  unfold mv1
  split
  · rename_i j hj
    have hs := hostN_some hj
    have e : smN (fun q => takeS X j lots 4 q 2) (cN X) = smN (fun q => X 4 q 2) (cN X) + lots := smN_upd (j := j) hs.1 (fun k hk => by
      show takeS X j lots 4 k 2 = X 4 k 2
      rw [take_4, if_neg (fun z => hk z.1), if_neg (by omega)]) (by
      show takeS X j lots 4 j 2 = X 4 j 2 + lots
      rw [take_4, if_pos ⟨rfl, rfl⟩])
    show smN (fun q => takeS X j lots 4 q 2) (cN X) + 0 = _
    omega
  · rfl
theorem mvN_sum {i : Nat} (hi : ¬ actv X i) : ∀ k, smN (fun q => (mvN X i k).1 4 q 2) (cN X) + (mvN X i k).2 = smN (fun q => X 4 q 2) (cN X) + smN (X 5 i) k
  | 0 => rfl
  | k + 1 => by
    have ih := mvN_sum hi k
    have hk := mvN_keep hi k
    have hn : cN (mvN X i k).1 = cN X := by
      unfold cN
      rw [hk.1 0 (by omega) (by omega)]
    have h1 := mv1_sum (mvN X i k).1 (X 5 i k)
    rw [hn] at h1
    show smN (fun q => (mv1 (mvN X i k).1 (X 5 i k)).1 4 q 2) (cN X) + ((mvN X i k).2 + (mv1 (mvN X i k).1 (X 5 i k)).2) = _ + (smN (X 5 i) k + X 5 i k)
    omega
theorem mvN_CL {i : Nat} (hi : ¬ actv X i) (hi10 : i < 10) (hM : ∀ i, i < 10 → MI X i) (hc : CL X) : ∀ k : Nat, (k : Int) ≤ X 4 i 1 → CL (mvN X i k).1
  | 0, _ => hc
  | k + 1, hk => by
    have ih := mvN_CL hi hi10 hM hc k (by omega)
    have hl := (hc i hi10).2.2 k (by omega)
    have hmi := hM i hi10
    unfold MI at hmi
    have hMk := mvN_MI hi10 hM k (by omega)
    show CL (mv1 (mvN X i k).1 (X 5 i k)).1
    unfold mv1
    split
    · exact fun q hq => CL_take1 (by have := hMk q hq; unfold MI at this; omega) (ih q hq) hl
    · exact ih
theorem fl_na (S : St) (j : Nat) : ¬ actv (flS S j) j := fun q => by
  have e : flS S j 4 j 3 = 2 := by rw [fl_4, if_pos ⟨rfl, rfl⟩]
  unfold actv at q
  omega
theorem fl_CL (hc : CL S) (j : Nat) : CL (flS S j) := fun i hi => by
  have e : ∀ k, k ≠ 3 → k ≠ 12 → flS S j 4 i k = S 4 i k := fun k a b => by rw [fl_4, if_neg (fun z => a z.2), if_neg (fun z => b z.1)]
  rw [e 1 (by omega) (by omega), e 2 (by omega) (by omega), fl_t (by omega) (by omega)]
  exact hc i hi
theorem fail_k {j : Nat} {v : Int} {i k : Nat} (h1 : k ≠ 1) (h2 : k ≠ 2) : failS S j v 4 i k = flS S j 4 i k := by
  rw [fail_4, if_neg (by omega)]
  exact (mvN_keep (fl_na S j) _).2.1 i k h1 h2
theorem fail_LF {t : Nat} (h : LB t S) {j : Nat} (hj : j < 10) (hjc : (j : Int) < S 0 0 3) {v : Int} (hv : 1 ≤ v ∧ v ≤ 20) : LF t j (bookN S j v) (failS S j v) ∧ v ≤ bookN S j v ∧ smN (fun i => failS S j v 4 i 2) (cN S) + (bookN S j v - v) = smN (fun i => S 4 i 2) (cN S) ∧ failS S j v 4 j 2 = 0 := by
  have hna := fl_na S j
  have hI := h.ci
  have hM := flS_MI hI j
  have hMj := hM j hj
  unfold MI at hMj
  have hcl := fl_CL h.cl j
  have e1 : (((flS S j 4 j 1).toNat : Nat) : Int) = flS S j 4 j 1 := by omega
  have hmc := mvN_CL hna hj hM hcl (flS S j 4 j 1).toNat (by omega)
  have hms := mvN_sum hna (flS S j 4 j 1).toNat
  have hmr := mvN_rng hj hM (flS S j 4 j 1).toNat (by omega)
  have hmk := mvN_keep hna (flS S j 4 j 1).toNat
  have hn : cN (flS S j) = cN S := by
    unfold cN
    rw [fl_0, if_neg (by omega)]
  have hc9 := hI.cnt
  have hjn : j < cN S := by unfold cN; omega
  have eb : bookN S j v = v + (mvN (flS S j) j (flS S j 4 j 1).toNat).2 := rfl
  have e2 : ∀ i k, k ≠ 3 → k ≠ 12 → flS S j 4 i k = S 4 i k := fun i k a b => by rw [fl_4, if_neg (fun z => a z.2), if_neg (fun z => b z.1)]
  have hs1 : smN (flS S j 5 j) (flS S j 4 j 1).toNat = S 4 j 2 := by rw [(hcl j hj).2.1, e2 j 2 (by omega) (by omega)]
  have hs2 : smN (fun q => flS S j 4 q 2) (cN S) = smN (fun q => S 4 q 2) (cN S) := smN_cong (fun q _ => e2 q 2 (by omega) (by omega))
  have hs3 : smN (fun q => (mvN (flS S j) j (flS S j 4 j 1).toNat).1 4 q 2) (cN S) = smN (fun i => failS S j v 4 i 2) (cN S) + S 4 j 2 := smN_upd (j := j) hjn (fun k hk => by
    show (mvN (flS S j) j (flS S j 4 j 1).toNat).1 4 k 2 = failS S j v 4 k 2
    rw [fail_4, if_neg (fun z => hk z.1)]) (by
    show (mvN (flS S j) j (flS S j 4 j 1).toNat).1 4 j 2 = failS S j v 4 j 2 + S 4 j 2
    rw [fail_4, if_pos ⟨rfl, Or.inr rfl⟩, hmk.2.2.1 2, e2 j 2 (by omega) (by omega)]
    omega)
  rw [hn, hs1, hs2, hs3] at hms
  have hc0 : (∀ k, k ≠ 7 → failS S j v 0 0 k = S 0 0 k) := fun k hk => by rw [fail_0 hna, if_neg hk]
  have hcn : cN (failS S j v) = cN S := by
    unfold cN
    rw [hc0 3 (by omega)]
  refine ⟨⟨⟨CI_fail hI hj hv.1 hna, fun i hi => ?_, Z8_cong h.z8 (fail_t hna (by omega) (by omega) (by omega) (by omega) (by omega)) (hc0 3 (by omega)), fun k hk hc => ?_, fun i hi => ?_, ?_⟩, ?_, ?_, ?_, fun i hi => ?_, ?_, by omega, by omega⟩, by omega, by omega, ?_⟩
  · by_cases q : i = j
    · subst q
      rw [fail_4, if_pos ⟨rfl, Or.inl rfl⟩, fail_4, if_pos ⟨rfl, Or.inr rfl⟩]
      exact ⟨Int.le_refl _, rfl, fun k hk => by omega⟩
    · rw [fail_4, if_neg (fun z => q z.1), fail_4, if_neg (fun z => q z.1), fail_5]
      exact hmc i hi
  · rw [hc0 3 (by omega)] at hc
    rw [fail_t hna (by omega) (by omega) (by omega) (by omega) (by omega), fail_k (by omega) (by omega), e2 k 6 (by omega) (by omega)]
    exact h.rm k hk hc
  · rw [fail_k (by omega) (by omega), e2 i 10 (by omega) (by omega)]
    exact h.bd.1 i hi
  · rw [hc0 6 (by omega)]
    exact h.bd.2
  · rw [fail_0 hna, if_pos rfl]
  · rw [hc0 3 (by omega)]
    exact hjc
  · rw [fail_k (by omega) (by omega), fl_4, if_pos ⟨rfl, rfl⟩]
  · rw [hcn] at hi
    rw [fail_k (by omega) (by omega), fail_k (by omega) (by omega), e2 i 5 (by omega) (by omega), fl_4, if_neg (by omega), if_pos ⟨rfl, hi⟩]
  · rw [fail_2]
    omega
  · rw [fail_4, if_pos ⟨rfl, Or.inr rfl⟩]
end FAILS
section XFails
variable {g : Gl} {S : St} {Ret : Option AV → St → Prop} {Thr : String → St → Prop} {t : Nat}
theorem cs_fail {l : Nat} {v : Int} (hI : CI S) (hl : (l : Int) < S 0 0 3) (hv : 1 ≤ v ∧ v ≤ 20) (ha : actv S l) (h7 : S 0 0 7 = -1) (h : Ret (some (vI (bookN S l v))) (failS S l v)) : Cn g yX3_fail cX3_fail 5 (some .int) 7 112 4 [vR 0 0, vI (l : Int), vI v] S Ret Thr := by
  have hc := hI.cnt
  refine cn_fail (by omega) (by omega) hI (fun j ej hj hjc q2 qa q7 => ?_) (fun q => absurd ⟨by omega, hl⟩ q) (fun _ q => absurd hv q) (fun j ej hj hjc q2 q => ?_)
  · have e : j = l := by omega
    subst e
    exact h
  · have e : j = l := by omega
    subst e
    exact absurd ⟨ha, h7⟩ q
theorem cn_fails {j : Nat} {v : Int} (hL : LI t S) (hjc : (j : Int) < S 0 0 3) (hv : 1 ≤ v ∧ v ≤ 20) (ha : actv S j) (h : ∀ b S', LF t j b S' → (∀ i, i < 10 → ∀ l : Nat, (l : Int) < S' 2 0 1 → S' 7 i l = -1001) → S' 0 0 3 = S 0 0 3 → Ret (some (vI b)) S') : Cn g yL_fails cL_fails 7 (some .int) 8 136 30 [vR 0 0, vI (j : Int), vI v] S Ret Thr := by
  refine enter (L := [some (vR 0 0), some (vI (j : Int)), some (vI v), none, none, none, none]) (by decide +kernel) (Nat.le_of_ble_eq_true rfl) rfl (fun K MM => ?_)
  have M := MM.mk
  have hI := hL.1.ci
  have hcl := cN_le hI
  have hce := cN_eq hI
  have hf := fail_LF hL.1 (show j < 10 by omega) hjc hv
  have hF := hf.1
  have hIf := hF.1.ci
  have hbr := hF.2.2.2.2.2.2
  have hs2 := smN_nn (f := fun i => S 4 i 2) (B := 100) (m := cN S) (fun k hk => (hI.mem (show k < 10 by omega)).2.1)
  have hs3 := smN_nn (f := fun i => failS S j v 4 i 2) (B := 100) (m := cN S) (fun k hk => (hIf.mem (show k < 10 by omega)).2.1)
  have h3 : failS S j v 0 0 3 = S 0 0 3 := by rw [fail_0 (fl_na S j), if_neg (by omega)]
  have hB7 : ∀ i, i < 10 → ∀ l : Nat, (l : Int) < failS S j v 2 0 1 → failS S j v 7 i l = -1001 := fun i hi l hl => by
    rw [fail_2] at hl
    have e : failS S j v 7 i l = if l < (min (bookN S j v) 120).toNat then -1001 else (movS (flS S j) j).1 7 i l := op_7v hi
    rw [e, if_pos (by omega)]
  have hgo : Ret (some (vI (bookN S j v))) (failS S j v) := h _ _ hF hB7 h3
  refine r_iconst M dL_fails_0 ?_
  refine r_istore_3 M dL_fails_1 (by decide) rfl ?_
  refine r_iconst M dL_fails_2 ?_
  refine r_istore_4 M dL_fails_3 (by decide) rfl ?_
  refine fz (P := fun l => K l 5 [some (vR 0 0), some (vI (j : Int)), some (vI v), some (vI (smN (fun i => S 4 i 2) l)), some (vI (l : Int)), none, none] [] S) (m := cN S) ?_ ?_
  · refine r_iload M dL_fails_5 rfl ?_
    refine r_aload_n M dL_fails_7 rfl ?_
    refine r_callV0 MM dL_fails_8 ck_L_14 vk_X3_members ⟨by omega, by omega, by omega⟩ ⟨by decide, by decide, rfl⟩ (by decide) (Nat.le_of_ble_eq_true rfl) (cn_members ?_)
    refine r_icmp_ge M dL_fails_11 (tgt := 29) rfl (by omega) (fun b11 => ?_) (fun b11 => by omega)
    refine r_aload_n M dL_fails_29 rfl ?_
    refine r_iload_n M dL_fails_30 rfl ?_
    refine r_iload_n M dL_fails_31 rfl ?_
    refine r_callV2 MM dL_fails_32 ck_L_51 vk_X3_fail ⟨by omega, by omega, by omega⟩ ⟨by decide, by decide, rfl⟩ (by decide) (Nat.le_of_ble_eq_true rfl) (cs_fail hI hjc hv ha hL.2 ?_)
    refine r_istore_4 M dL_fails_35 (by decide) rfl ?_
    refine r_iconst M dL_fails_37 ?_
    refine r_istore_5 M dL_fails_38 (by decide) rfl ?_
    refine r_iconst M dL_fails_40 ?_
    refine r_istore_6 M dL_fails_41 (by decide) rfl ?_
    refine k_w M (n2 := 14 + 0) (by omega) (by omega) ?_
    refine fz (P := fun l => K (14 + l) 43 [some (vR 0 0), some (vI (j : Int)), some (vI v), some (vI (smN (fun i => S 4 i 2) (cN S))), some (vI (bookN S j v)), some (vI (smN (fun i => failS S j v 4 i 2) l)), some (vI (l : Int))] [] (failS S j v)) (m := cN S) ?_ ?_
    · refine r_iload M dL_fails_43 rfl ?_
      refine r_aload_n M dL_fails_45 rfl ?_
      refine r_callV0 MM dL_fails_46 ck_L_14 vk_X3_members ⟨by omega, by omega, by omega⟩ ⟨by decide, by decide, rfl⟩ (by decide) (Nat.le_of_ble_eq_true rfl) (cs_members h3 ?_)
      refine r_icmp_ge M dL_fails_49 (tgt := 69) rfl (by omega) (fun b49 => ?_) (fun b49 => by omega)
      refine r_iload M dL_fails_69 rfl ?_
      refine r_iload_n M dL_fails_71 rfl ?_
      refine r_icmp_lt M dL_fails_72 (tgt := 111) rfl (by omega) (fun b72 => by omega) (fun b72 => ?_)
      refine r_iload_n M dL_fails_75 rfl ?_
      refine r_iload M dL_fails_76 rfl ?_
      refine r_isub M dL_fails_78 ?_
      refine r_iload M dL_fails_79 rfl ?_
      refine r_iload_n M dL_fails_81 rfl ?_
      refine r_isub M dL_fails_82 ?_
      refine r_icmp_ne M dL_fails_83 (tgt := 111) rfl (by omega) (fun b83 => by omega) (fun b83 => ?_)
      refine r_aload_n M dL_fails_86 rfl ?_
      refine r_iload_n M dL_fails_87 rfl ?_
      refine r_callV1 MM dL_fails_88 ck_L_48 vk_X3_clientLots ⟨by omega, by omega, by omega⟩ ⟨by decide, by decide, rfl⟩ (by decide) (Nat.le_of_ble_eq_true rfl) (cs_clientLots hIf (by omega) hf.2.2.2 ?_)
      refine r_if_ne M dL_fails_91 (tgt := 111) rfl (by omega) (fun b91 => by omega) (fun b91 => ?_)
      refine r_aload_n M dL_fails_94 rfl ?_
      refine r_callV0 MM dL_fails_95 ck_L_27 vk_X3_failing ⟨by omega, by omega, by omega⟩ ⟨by decide, by decide, rfl⟩ (by decide) (Nat.le_of_ble_eq_true rfl) (cs_failing hF.2.1 ?_)
      refine r_iload_n M dL_fails_98 rfl ?_
      refine r_icmp_ne M dL_fails_99 (tgt := 111) rfl (by omega) (fun b99 => by omega) (fun b99 => ?_)
      refine r_aload_n M dL_fails_102 rfl ?_
      refine r_iload_n M dL_fails_103 rfl ?_
      refine r_callV1 MM dL_fails_104 ck_L_33 vk_X3_state ⟨by omega, by omega, by omega⟩ ⟨by decide, by decide, rfl⟩ (by decide) (Nat.le_of_ble_eq_true rfl) (cs_state hIf (by omega) hF.2.2.2.1 ?_)
      refine r_iconst M dL_fails_107 ?_
      refine r_icmp_eq M dL_fails_108 (tgt := 113) rfl (by omega) (fun b108 => ?_) (fun b108 => by omega)
      refine r_iload M dL_fails_113 rfl ?_
      refine r_iret MM dL_fails_115 ?_
      exact hgo
    · intro l hl hP
      refine r_iload M dL_fails_43 rfl ?_
      refine r_aload_n M dL_fails_45 rfl ?_
      refine r_callV0 MM dL_fails_46 ck_L_14 vk_X3_members ⟨by omega, by omega, by omega⟩ ⟨by decide, by decide, rfl⟩ (by decide) (Nat.le_of_ble_eq_true rfl) (cs_members h3 ?_)
      refine r_icmp_ge M dL_fails_49 (tgt := 69) rfl (by omega) (fun b49 => by omega) (fun b49 => ?_)
      refine r_iload M dL_fails_52 rfl ?_
      refine r_aload_n M dL_fails_54 rfl ?_
      refine r_iload M dL_fails_55 rfl ?_
      refine r_callV1 MM dL_fails_57 ck_L_48 vk_X3_clientLots ⟨by omega, by omega, by omega⟩ ⟨by decide, by decide, rfl⟩ (by decide) (Nat.le_of_ble_eq_true rfl) (cs_clientLots hIf (by omega) rfl ?_)
      refine r_iadd M dL_fails_60 ?_
      refine r_istore_5 M dL_fails_61 (by decide) rfl ?_
      refine r_iinc_6 M (_) dL_fails_63 rfl (by decide) rfl ?_
      refine r_goto M dL_fails_66 (tgt := 43) rfl ?_
      exact k_w M (by omega) (by omega) hP
  · intro l hl hP
    refine r_iload M dL_fails_5 rfl ?_
    refine r_aload_n M dL_fails_7 rfl ?_
    refine r_callV0 MM dL_fails_8 ck_L_14 vk_X3_members ⟨by omega, by omega, by omega⟩ ⟨by decide, by decide, rfl⟩ (by decide) (Nat.le_of_ble_eq_true rfl) (cn_members ?_)
    refine r_icmp_ge M dL_fails_11 (tgt := 29) rfl (by omega) (fun b11 => by omega) (fun b11 => ?_)
    refine r_iload_n M dL_fails_14 rfl ?_
    refine r_aload_n M dL_fails_15 rfl ?_
    refine r_iload M dL_fails_16 rfl ?_
    refine r_callV1 MM dL_fails_18 ck_L_48 vk_X3_clientLots ⟨by omega, by omega, by omega⟩ ⟨by decide, by decide, rfl⟩ (by decide) (Nat.le_of_ble_eq_true rfl) (cs_clientLots hI (by omega) rfl ?_)
    refine r_iadd M dL_fails_21 ?_
    refine r_istore_3 M dL_fails_22 (by decide) rfl ?_
    refine r_iinc_4 M (_) dL_fails_23 rfl (by decide) rfl ?_
    refine r_goto M dL_fails_26 (tgt := 5) rfl ?_
    exact k_w M (by omega) (by omega) hP
end XFails
