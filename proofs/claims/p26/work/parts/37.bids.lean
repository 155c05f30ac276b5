/-! ===== bids ===== -/
section BIDS
variable {t f : Nat} {b : Int} {S : St}
theorem CI_bid (hI : CI S) (i l : Nat) {v : Int} (hv : -1000 ≤ v ∧ v ≤ 1000) : CI (up3 S 7 i l v) := by
  obtain ⟨a1, a2, a3, a4, a5, a6, a7⟩ := hI
  refine ⟨a1, a2, a3, a4, ⟨a5.1, fun i' hi k hk => ?_⟩, a6, a7⟩
  have h := a5.2 i' hi k hk
  show -1001 ≤ (if 7 = 7 ∧ i' = i ∧ k = l then v else S 7 i' k) ∧ (if 7 = 7 ∧ i' = i ∧ k = l then v else S 7 i' k) ≤ 1000
  split <;> omega
theorem LF.bid (h : LF t f b S) (i l : Nat) {v : Int} (hv : -1000 ≤ v ∧ v ≤ 1000) : LF t f b (up3 S 7 i l v) := by
  obtain ⟨hB, h1, h2, h3, h4, h5, h6⟩ := h
  have e : ∀ t', t' ≠ 7 → up3 S 7 i l v t' = S t' := fun t' q => up3_t q
  refine ⟨hB.gen (CI_bid hB.ci i l hv) (by rw [e 0 (by omega)]) (e 5 (by omega)) (fun i => by rw [e 4 (by omega)]; exact ⟨rfl, rfl, rfl, rfl⟩) (Z8_cong hB.z8 (e 8 (by omega)) (by rw [e 0 (by omega)])) (e 12 (by omega)) (by rw [e 0 (by omega)]), by rw [e 0 (by omega)]; exact h1, by rw [e 0 (by omega)]; exact h2, by rw [e 4 (by omega)]; exact h3, fun i' hi => ?_, by rw [e 2 (by omega)]; exact h5, h6⟩
  have hn : cN (up3 S 7 i l v) = cN S := by
    unfold cN
    rw [e 0 (by omega)]
  rw [hn] at hi
  rw [e 4 (by omega)]
  exact h4 i' hi
end BIDS
section XBids
variable {g : Gl} {S : St} {Ret : Option AV → St → Prop} {Thr : String → St → Prop} {t f : Nat} {b : Int}
theorem cs_bid {m lot : Nat} {v : Int} (hI : CI S) (hm : (m : Int) < S 0 0 3) (hlot : (lot : Int) < S 2 0 1) (h7 : S 0 0 7 ≠ -1) (hv : -1000 ≤ v ∧ v ≤ 1000) (ha : actv S m) (hb : S 7 m lot = -1001) (h : Ret none (up3 S 7 m lot v)) : Cn g yX3_bid cX3_bid 5 none 7 112 5 [vR 0 0, vI (m : Int), vI (lot : Int), vI v] S Ret Thr := by
  have hc := hI.cnt
  have hA := hI.2.2.2.2.1.1
  refine cn_bid (by omega) (by omega) (by omega) hI (fun j l ej el hj hl hjc q7 hlc q2 qa qb => ?_) (fun q => absurd ⟨⟨by omega, hm⟩, h7, by omega, hlot⟩ q) (fun _ q => absurd hv q) (fun j l ej el hj hl hjc q7 hlc q2 q => ?_)
  · have e : j = m := by omega
    have e2 : l = lot := by omega
    subst e; subst e2
    exact h
  · have e : j = m := by omega
    have e2 : l = lot := by omega
    subst e; subst e2
    exact absurd ⟨ha, hb⟩ q
theorem cn_bids {x y : Int} (hL : LF t f b S) (hB : ∀ i, i < 10 → ∀ l : Nat, (l : Int) < S 2 0 1 → S 7 i l = -1001) (h : ∀ S', LF t f b S' → S' 0 0 3 = S 0 0 3 → Ret none S') : Cn g yL_bids cL_bids 6 none 8 136 610 [vR 0 0, vI b, vI x, vI y] S Ret Thr := by
  refine enter (L := [some (vR 0 0), some (vI b), some (vI x), some (vI y), none, none]) (by decide +kernel) (Nat.le_of_ble_eq_true rfl) rfl (fun K MM => ?_)
  have M := MM.mk
  have hcl := cN_le hL.1.ci
  have hce := cN_eq hL.1.ci
  have hbr := hL.2.2.2.2.2.2
  refine r_iconst M dL_bids_0 ?_
  refine r_istore_4 M dL_bids_1 (by decide) rfl ?_
  refine fz (P := fun k => ∀ S', LF t f b S' → S' 0 0 3 = S 0 0 3 → (∀ i, i < 10 → k ≤ i → ∀ l : Nat, (l : Int) < S' 2 0 1 → S' 7 i l = -1001) → ∀ c5, K (61 * k) 3 [some (vR 0 0), some (vI b), some (vI x), some (vI y), some (vI (k : Int)), c5] [] S') (m := cN S) ?_ ?_ S hL rfl (fun i hi _ => hB i hi) _
  · intro S' hL' h3 _ c5
    refine r_iload M dL_bids_3 rfl ?_
    refine r_aload_n M dL_bids_5 rfl ?_
    refine r_callV0 MM dL_bids_6 ck_L_14 vk_X3_members ⟨by omega, by omega, by omega⟩ ⟨by decide, by decide, rfl⟩ (by decide) (Nat.le_of_ble_eq_true rfl) (cs_members h3 ?_)
    refine r_icmp_ge M dL_bids_9 (tgt := 105) rfl (by omega) (fun b9 => ?_) (fun b9 => by omega)
    refine r_vret MM dL_bids_105 ?_
    exact h S' hL' h3
  · intro k hk hP S' hL' h3 hu c5
    have hI := hL'.1.ci
    have hm := hI.mem (show k < 10 by omega)
    unfold MI at hm
    have hkc : (k : Int) < S' 0 0 3 := by omega
    refine r_iload M dL_bids_3 rfl ?_
    refine r_aload_n M dL_bids_5 rfl ?_
    refine r_callV0 MM dL_bids_6 ck_L_14 vk_X3_members ⟨by omega, by omega, by omega⟩ ⟨by decide, by decide, rfl⟩ (by decide) (Nat.le_of_ble_eq_true rfl) (cs_members h3 ?_)
    refine r_icmp_ge M dL_bids_9 (tgt := 105) rfl (by omega) (fun b9 => by omega) (fun b9 => ?_)
    refine r_aload_n M dL_bids_12 rfl ?_
    refine r_iload M dL_bids_13 rfl ?_
    refine r_callV1 MM dL_bids_15 ck_L_33 vk_X3_state ⟨by omega, by omega, by omega⟩ ⟨by decide, by decide, rfl⟩ (by decide) (Nat.le_of_ble_eq_true rfl) (cs_state hI hkc rfl ?_)
    refine r_iconst M dL_bids_18 ?_
    refine r_icmp_le M dL_bids_19 (tgt := 25) rfl (by omega) (fun b19 => ?_) (fun b19 => ?_)
    rotate_left
    · refine r_goto M dL_bids_22 (tgt := 99) rfl ?_
      refine r_iinc_4 M (_) dL_bids_99 rfl (by decide) rfl ?_
      refine r_goto M dL_bids_102 (tgt := 3) rfl ?_
      exact k_w M (by omega) (by omega) (hP S' hL' h3 (fun i hi hik => hu i hi (by omega)) _)
    refine r_iconst M dL_bids_25 ?_
    refine r_istore_5 M dL_bids_26 (by decide) rfl ?_
    refine k_w M (n2 := 61 * k + 1 + 5 * 0) (by omega) (by omega) ?_
    refine fz (P := fun l => ∀ S', LF t f b S' → S' 0 0 3 = S 0 0 3 → (∀ i, i < 10 → k + 1 ≤ i → ∀ l : Nat, (l : Int) < S' 2 0 1 → S' 7 i l = -1001) → (∀ l' : Nat, l ≤ l' → (l' : Int) < S' 2 0 1 → S' 7 k l' = -1001) → S' 4 k 3 ≤ 1 → K (61 * k + 1 + 5 * l) 28 [some (vR 0 0), some (vI b), some (vI x), some (vI y), some (vI (k : Int)), some (vI (l : Int))] [] S') (m := 12) ?_ ?_ S' hL' h3 (fun i hi hik => hu i hi (by omega)) (fun l' _ hl' => hu k (by omega) (Nat.le_refl _) l' hl') (by omega)
    · intro S2 hL2 h32 hu2 hv2 ha2
      refine r_iload M dL_bids_28 rfl ?_
      refine r_iload_n M dL_bids_30 rfl ?_
      refine r_icmp_ge M dL_bids_31 (tgt := 99) rfl (by omega) (fun b31 => ?_) (fun b31 => ?_)
      · refine r_iinc_4 M (_) dL_bids_99 rfl (by decide) rfl ?_
        refine r_goto M dL_bids_102 (tgt := 3) rfl ?_
        exact k_w M (by omega) (by omega) (hP S2 hL2 h32 hu2 _)
      refine r_iload M dL_bids_34 rfl ?_
      refine r_bipush M dL_bids_36 rfl ?_
      refine r_icmp_ge M dL_bids_38 (tgt := 99) rfl (by omega) (fun b38 => ?_) (fun b38 => by omega)
      refine r_iinc_4 M (_) dL_bids_99 rfl (by decide) rfl ?_
      refine r_goto M dL_bids_102 (tgt := 3) rfl ?_
      exact k_w M (by omega) (by omega) (hP S2 hL2 h32 hu2 _)
    · intro l hl hQ S2 hL2 h32 hu2 hv2 ha2
      have hI2 := hL2.1.ci
      have hm2 := hI2.mem (show k < 10 by omega)
      unfold MI at hm2
      have h5 := hL2.2.2.2.2.2.1
      have hu7 := hL2.2.1
      refine r_iload M dL_bids_28 rfl ?_
      refine r_iload_n M dL_bids_30 rfl ?_
      refine r_icmp_ge M dL_bids_31 (tgt := 99) rfl (by omega) (fun b31 => ?_) (fun b31 => ?_)
      · refine r_iinc_4 M (_) dL_bids_99 rfl (by decide) rfl ?_
        refine r_goto M dL_bids_102 (tgt := 3) rfl ?_
        exact k_w M (by omega) (by omega) (hP S2 hL2 h32 hu2 _)
      refine r_iload M dL_bids_34 rfl ?_
      refine r_bipush M dL_bids_36 rfl ?_
      refine r_icmp_ge M dL_bids_38 (tgt := 99) rfl (by omega) (fun b38 => by omega) (fun b38 => ?_)
      refine r_iload_n M dL_bids_41 rfl ?_
      refine r_iload M dL_bids_42 rfl ?_
      refine r_iload M dL_bids_44 rfl ?_
      refine r_iconst M dL_bids_46 ?_
      refine r_irem M dL_bids_47 (by omega) (fun x47 hx47 => ?_)
      refine r_iadd M dL_bids_48 ?_
      refine r_ishr M dL_bids_49 (fun x49 hx49 => ?_)
      refine r_iconst M dL_bids_50 ?_
      refine r_callS2 MM dL_bids_51 sl_L_55 st_L_at rfl ck_L_55 ⟨by omega, by omega, by omega⟩ (Nat.le_of_ble_eq_true rfl) (cn_at (by omega) (fun z hz => ?_))
      refine r_if_le M dL_bids_54 (tgt := 93) rfl (by omega) (fun b54 => ?_) (fun b54 => ?_)
      · refine r_iinc_5 M (_) dL_bids_93 rfl (by decide) rfl ?_
        refine r_goto M dL_bids_96 (tgt := 28) rfl ?_
        first | exact k_w M (by omega) (by omega) (hQ S2 hL2 h32 hu2 (fun l' q => hv2 l' (by omega)) ha2) | exact k_w M (by omega) (by omega) (hQ _ (hL2.bid k l (by omega)) h32 (fun i hi hik l' hl' => (if_neg (fun q => by omega)).trans (hu2 i hi hik l' hl')) (fun l' q hl' => (if_neg (fun q => by omega)).trans (hv2 l' (by omega) hl')) ha2)
      refine r_aload_n M dL_bids_57 rfl ?_
      refine r_iload M dL_bids_58 rfl ?_
      refine r_iload M dL_bids_60 rfl ?_
      refine r_iload_n M dL_bids_62 rfl ?_
      refine r_bipush M dL_bids_63 rfl ?_
      refine r_iload M dL_bids_65 rfl ?_
      refine r_imul M dL_bids_67 ?_
      refine r_iadd M dL_bids_68 ?_
      refine r_bipush M dL_bids_69 rfl ?_
      refine r_iload M dL_bids_71 rfl ?_
      refine r_imul M dL_bids_73 ?_
      refine r_iadd M dL_bids_74 ?_
      refine r_iload M dL_bids_75 rfl ?_
      refine r_iconst M dL_bids_77 ?_
      refine r_irem M dL_bids_78 (by omega) (fun x78 hx78 => ?_)
      refine r_ishr M dL_bids_79 (fun x79 hx79 => ?_)
      refine r_sipush M dL_bids_80 rfl ?_
      refine r_callS2 MM dL_bids_83 sl_L_55 st_L_at rfl ck_L_55 ⟨by omega, by omega, by omega⟩ (Nat.le_of_ble_eq_true rfl) (cn_at (by omega) (fun z2 hz2 => ?_))
      refine r_sipush M dL_bids_86 rfl ?_
      refine r_isub M dL_bids_89 ?_
      refine r_callV3 MM dL_bids_90 ck_L_70 vk_X3_bid ⟨by omega, by omega, by omega⟩ ⟨by decide, by decide, rfl⟩ (by decide) (Nat.le_of_ble_eq_true rfl) (cs_bid hI2 (by omega) (by omega) (by omega) (by omega) (by unfold actv; omega) (hv2 l (Nat.le_refl _) (by omega)) ?_)
      refine r_iinc_5 M (_) dL_bids_93 rfl (by decide) rfl ?_
      refine r_goto M dL_bids_96 (tgt := 28) rfl ?_
      first | exact k_w M (by omega) (by omega) (hQ S2 hL2 h32 hu2 (fun l' q => hv2 l' (by omega)) ha2) | exact k_w M (by omega) (by omega) (hQ _ (hL2.bid k l (by omega)) h32 (fun i hi hik l' hl' => (if_neg (fun q => by omega)).trans (hu2 i hi hik l' hl')) (fun l' q hl' => (if_neg (fun q => by omega)).trans (hv2 l' (by omega) hl')) ha2)
end XBids
