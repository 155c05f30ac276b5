/-! ===== the class's answers about one member; at, funds, sizes ===== -/
section XSmall
variable {g : Gl} {S : St} {Ret : Option AV → St → Prop} {Thr : String → St → Prop}
theorem cs_state {l : Nat} {v : Int} (hI : CI S) (hl : (l : Int) < S 0 0 3) (hv : S 4 l 3 = v) (h : Ret (some (vI v)) S) : Cn g yX3_state cX3_state 2 (some .int) 7 111 1 [vR 0 0, vI (l : Int)] S Ret Thr := by
  have hc := hI.cnt
  refine cn_state (by omega) hI (fun j ej hj hjc => ?_) (fun q => absurd ⟨by omega, hl⟩ q)
  have e : j = l := by omega
  subst e
  subst hv
  exact h
theorem cs_margin {l : Nat} {v : Int} (hI : CI S) (hl : (l : Int) < S 0 0 3) (hv : S 4 l 4 = v) (h : Ret (some (vI v)) S) : Cn g yX3_margin cX3_margin 2 (some .int) 7 111 1 [vR 0 0, vI (l : Int)] S Ret Thr := by
  have hc := hI.cnt
  refine cn_margin (by omega) hI (fun j ej hj hjc => ?_) (fun q => absurd ⟨by omega, hl⟩ q)
  have e : j = l := by omega
  subst e
  subst hv
  exact h
theorem cs_share {l : Nat} {v : Int} (hI : CI S) (hl : (l : Int) < S 0 0 3) (hv : S 4 l 5 = v) (h : Ret (some (vI v)) S) : Cn g yX3_share cX3_share 2 (some .int) 7 111 1 [vR 0 0, vI (l : Int)] S Ret Thr := by
  have hc := hI.cnt
  refine cn_share (by omega) hI (fun j ej hj hjc => ?_) (fun q => absurd ⟨by omega, hl⟩ q)
  have e : j = l := by omega
  subst e
  subst hv
  exact h
theorem cs_gain {l : Nat} {v : Int} (hI : CI S) (hl : (l : Int) < S 0 0 3) (hv : S 4 l 7 = v) (h : Ret (some (vI v)) S) : Cn g yX3_gain cX3_gain 2 (some .int) 7 111 1 [vR 0 0, vI (l : Int)] S Ret Thr := by
  have hc := hI.cnt
  refine cn_gain (by omega) hI (fun j ej hj hjc => ?_) (fun q => absurd ⟨by omega, hl⟩ q)
  have e : j = l := by omega
  subst e
  subst hv
  exact h
theorem cs_assessed {l : Nat} {v : Int} (hI : CI S) (hl : (l : Int) < S 0 0 3) (hv : S 4 l 10 = v) (h : Ret (some (vI v)) S) : Cn g yX3_assessed cX3_assessed 2 (some .int) 7 111 1 [vR 0 0, vI (l : Int)] S Ret Thr := by
  have hc := hI.cnt
  refine cn_assessed (by omega) hI (fun j ej hj hjc => ?_) (fun q => absurd ⟨by omega, hl⟩ q)
  have e : j = l := by omega
  subst e
  subst hv
  exact h
theorem cs_clientLots {l : Nat} {v : Int} (hI : CI S) (hl : (l : Int) < S 0 0 3) (hv : S 4 l 2 = v) (h : Ret (some (vI v)) S) : Cn g yX3_clientLots cX3_clientLots 2 (some .int) 7 111 1 [vR 0 0, vI (l : Int)] S Ret Thr := by
  have hc := hI.cnt
  refine cn_clientLots (by omega) hI (fun j ej hj hjc => ?_) (fun q => absurd ⟨by omega, hl⟩ q)
  have e : j = l := by omega
  subst e
  subst hv
  exact h
theorem cs_won {l : Nat} {v : Int} (hI : CI S) (hl : (l : Int) < S 0 0 3) (hv : S 4 l 11 = v) (h : Ret (some (vI v)) S) : Cn g yX3_won cX3_won 2 (some .int) 7 111 1 [vR 0 0, vI (l : Int)] S Ret Thr := by
  have hc := hI.cnt
  refine cn_won (by omega) hI (fun j ej hj hjc => ?_) (fun q => absurd ⟨by omega, hl⟩ q)
  have e : j = l := by omega
  subst e
  subst hv
  exact h
theorem cs_members {v : Int} (hv : S 0 0 3 = v) (h : Ret (some (vI v)) S) : Cn g yX3_members cX3_members 1 (some .int) 0 0 0 [vR 0 0] S Ret Thr := by
  subst hv
  exact cn_members h
theorem cs_capital {v : Int} (hv : S 0 0 4 = v) (h : Ret (some (vI v)) S) : Cn g yX3_capital cX3_capital 1 (some .int) 0 0 0 [vR 0 0] S Ret Thr := by
  subst hv
  exact cn_capital h
theorem cs_loss {v : Int} (hv : S 0 0 5 = v) (h : Ret (some (vI v)) S) : Cn g yX3_loss cX3_loss 1 (some .int) 0 0 0 [vR 0 0] S Ret Thr := by
  subst hv
  exact cn_loss h
theorem cs_uncovered {v : Int} (hv : S 0 0 6 = v) (h : Ret (some (vI v)) S) : Cn g yX3_uncovered cX3_uncovered 1 (some .int) 0 0 0 [vR 0 0] S Ret Thr := by
  subst hv
  exact cn_uncovered h
theorem cs_failing {v : Int} (hv : S 0 0 7 = v) (h : Ret (some (vI v)) S) : Cn g yX3_failing cX3_failing 1 (some .int) 0 0 0 [vR 0 0] S Ret Thr := by
  subst hv
  exact cn_failing h
theorem cn_at {a b : Int} (hb : 0 < b ∧ b ≤ 2147483647) (h : ∀ z : Int, (0 ≤ z ∧ z < b) → Ret (some (vI z)) S) : Cn g yL_at cL_at 2 (some .int) 0 0 0 [vI a, vI b] S Ret Thr := by
  refine enter (L := [some (vI a), some (vI b)]) (by decide +kernel) (Nat.le_of_ble_eq_true rfl) rfl (fun K MM => ?_)
  have M := MM.mk
  refine r_iload_n M dL_at_0 rfl ?_
  refine r_iconst M dL_at_1 ?_
  refine r_iushr M dL_at_2 (fun x2 hx2 => ?_)
  refine r_iload_n M dL_at_3 rfl ?_
  refine r_irem M dL_at_4 (by omega) (fun x4 hx4 => ?_)
  refine r_iret MM dL_at_5 ?_
  exact h _ hx4
def AR (S : St) : Prop := ∀ i, i < 10 → 0 ≤ S 4 i 10 ∧ S 4 i 10 ≤ 100000000
theorem fuN_rng (hI : CI S) (hA : AR S) : ∀ l : Nat, l ≤ 10 → -(200000000 * (l : Int)) ≤ fuN S l ∧ fuN S l ≤ 1000000 + 200000000 * l
  | 0, _ => by
    have h := hI.2.1
    show -(200000000 * (0 : Int)) ≤ S 0 0 4 ∧ S 0 0 4 ≤ 1000000 + 200000000 * 0
    omega
  | l + 1, hl => by
    have ih := fuN_rng hI hA l (by omega)
    have hm := hI.mem (show l < 10 by omega)
    unfold MI at hm
    have ha := hA l (by omega)
    show _ ≤ fuN S l + (S 4 l 5 + S 4 l 7 - S 4 l 10) ∧ fuN S l + (S 4 l 5 + S 4 l 7 - S 4 l 10) ≤ _
    omega
theorem cn_funds {v : Int} (hI : CI S) (hA : AR S) (hv : fuN S (cN S) = v) (h : Ret (some (vL v)) S) : Cn g yL_funds cL_funds 4 (some .long) 8 132 30 [vR 0 0] S Ret Thr := by
  subst hv
  refine enter (L := [some (vR 0 0), none, none, none]) (by decide +kernel) (Nat.le_of_ble_eq_true rfl) rfl (fun K MM => ?_)
  have M := MM.mk
  have hc := hI.cnt
  have hcl := cN_le hI
  have hce := cN_eq hI
  have h4 := hI.2.1
  refine r_aload_n M dL_funds_0 rfl ?_
  refine r_callV0 MM dL_funds_1 ck_L_8 vk_X3_capital ⟨by omega, by omega, by omega⟩ ⟨by decide, by decide, rfl⟩ (by decide) (Nat.le_of_ble_eq_true rfl) (cn_capital ?_)
  refine r_i2l M dL_funds_4 (by omega) ?_
  refine r_lstore_1 M dL_funds_5 (by decide) rfl ?_
  refine r_iconst M dL_funds_6 ?_
  refine r_istore_3 M dL_funds_7 (by decide) rfl ?_
  refine fz (P := fun l => K (3 * l) 8 [some (vR 0 0), some (vL (fuN S l)), none, some (vI (l : Int))] [] S) (m := cN S) ?_ ?_
  · refine r_iload_n M dL_funds_8 rfl ?_
    refine r_aload_n M dL_funds_9 rfl ?_
    refine r_callV0 MM dL_funds_10 ck_L_14 vk_X3_members ⟨by omega, by omega, by omega⟩ ⟨by decide, by decide, rfl⟩ (by decide) (Nat.le_of_ble_eq_true rfl) (cn_members ?_)
    refine r_icmp_ge M dL_funds_13 (tgt := 45) rfl (by omega) (fun b13 => ?_) (fun b13 => by omega)
    refine r_lload_n M dL_funds_45 rfl ?_
    refine r_lret MM dL_funds_46 ?_
    exact h
  · intro l hl hP
    have hm := hI.mem (show l < 10 by omega)
    unfold MI at hm
    have ha := hA l (by omega)
    refine r_iload_n M dL_funds_8 rfl ?_
    refine r_aload_n M dL_funds_9 rfl ?_
    refine r_callV0 MM dL_funds_10 ck_L_14 vk_X3_members ⟨by omega, by omega, by omega⟩ ⟨by decide, by decide, rfl⟩ (by decide) (Nat.le_of_ble_eq_true rfl) (cn_members ?_)
    refine r_icmp_ge M dL_funds_13 (tgt := 45) rfl (by omega) (fun b13 => by omega) (fun b13 => ?_)
    refine r_lload_n M dL_funds_16 rfl ?_
    refine r_aload_n M dL_funds_17 rfl ?_
    refine r_iload_n M dL_funds_18 rfl ?_
    refine r_callV1 MM dL_funds_19 ck_L_17 vk_X3_share ⟨by omega, by omega, by omega⟩ ⟨by decide, by decide, rfl⟩ (by decide) (Nat.le_of_ble_eq_true rfl) (cs_share hI (by omega) rfl ?_)
    refine r_i2l M dL_funds_22 (by omega) ?_
    refine r_aload_n M dL_funds_23 rfl ?_
    refine r_iload_n M dL_funds_24 rfl ?_
    refine r_callV1 MM dL_funds_25 ck_L_21 vk_X3_gain ⟨by omega, by omega, by omega⟩ ⟨by decide, by decide, rfl⟩ (by decide) (Nat.le_of_ble_eq_true rfl) (cs_gain hI (by omega) rfl ?_)
    refine r_i2l M dL_funds_28 (by omega) ?_
    refine r_ladd M dL_funds_29 ?_
    refine r_aload_n M dL_funds_30 rfl ?_
    refine r_iload_n M dL_funds_31 rfl ?_
    refine r_callV1 MM dL_funds_32 ck_L_24 vk_X3_assessed ⟨by omega, by omega, by omega⟩ ⟨by decide, by decide, rfl⟩ (by decide) (Nat.le_of_ble_eq_true rfl) (cs_assessed hI (by omega) rfl ?_)
    refine r_i2l M dL_funds_35 (by omega) ?_
    refine r_lsub M dL_funds_36 ?_
    refine r_ladd M dL_funds_37 ?_
    refine r_lstore_1 M dL_funds_38 (by decide) rfl ?_
    refine r_iinc_3 M (_) dL_funds_39 rfl (by decide) rfl ?_
    refine r_goto M dL_funds_42 (tgt := 8) rfl ?_
    exact k_w M (by omega) (by omega) hP
theorem AR_sz (hA : AR S) : AR (szS S) := fun i hi => by
  rw [sz_4, if_neg (by omega)]
  exact hA i hi
theorem cn_sizes (hI : CI S) (hA : AR S) (h7 : S 0 0 7 = -1) (h : Ret (some (vI 1)) (szS (szS S))) : Cn g yL_sizes cL_sizes 4 (some .boolean) 9 163 62 [vR 0 0] S Ret Thr := by
  refine enter (L := [some (vR 0 0), none, none, none]) (by decide +kernel) (Nat.le_of_ble_eq_true rfl) rfl (fun K MM => ?_)
  have M := MM.mk
  have hcl := cN_le hI
  have hS := CI_sz hI
  have hg := smN_nn (f := grw S) (B := 2000000) (m := cN S) hS.2
  have hf := fuN_rng hI hA (cN S) hcl
  have e1 : fuN (szS S) (cN (szS S)) = fuN S (cN S) + smN (grw S) (cN S) := sz_fuN S (cN S) (Nat.le_refl _)
  have e2 := sz_sm2 S
  refine r_aload_n M dL_sizes_0 rfl ?_
  refine r_callS1 MM dL_sizes_1 sl_L_63 st_L_funds rfl ck_L_63 ⟨by omega, by omega, by omega⟩ (Nat.le_of_ble_eq_true rfl) (cn_funds hI hA rfl ?_)
  refine r_lstore_1 M dL_sizes_4 (by decide) rfl ?_
  refine r_aload_n M dL_sizes_5 rfl ?_
  refine r_callV0 MM dL_sizes_6 ck_L_67 vk_X3_size ⟨by omega, by omega, by omega⟩ ⟨by decide, by decide, rfl⟩ (by decide) (Nat.le_of_ble_eq_true rfl) (cn_size hI (fun q => ?_) (fun q => absurd h7 q))
  refine r_istore_3 M dL_sizes_9 (by decide) rfl ?_
  refine r_iload_n M dL_sizes_10 rfl ?_
  refine r_if_lt M dL_sizes_11 (tgt := 37) rfl (by omega) (fun b11 => by omega) (fun b11 => ?_)
  refine r_aload_n M dL_sizes_14 rfl ?_
  refine r_callS1 MM dL_sizes_15 sl_L_63 st_L_funds rfl ck_L_63 ⟨by omega, by omega, by omega⟩ (Nat.le_of_ble_eq_true rfl) (cn_funds hS.1 (AR_sz hA) e1 ?_)
  refine r_lload_n M dL_sizes_18 rfl ?_
  refine r_iload_n M dL_sizes_19 rfl ?_
  refine r_i2l M dL_sizes_20 (by omega) ?_
  refine r_ladd M dL_sizes_21 ?_
  refine r_lcmp M dL_sizes_22 (by omega) ?_
  refine k_St (st := [vI 0]) ?_ (by rw [if_neg (by omega), if_pos (by omega)])
  refine r_if_ne M dL_sizes_23 (tgt := 37) rfl (by omega) (fun b23 => by omega) (fun b23 => ?_)
  refine r_aload_n M dL_sizes_26 rfl ?_
  refine r_callV0 MM dL_sizes_27 ck_L_67 vk_X3_size ⟨by omega, by omega, by omega⟩ ⟨by decide, by decide, rfl⟩ (by decide) (Nat.le_of_ble_eq_true rfl) (cn_size hS.1 (fun q => ?_) (fun q => absurd h7 q))
  refine k_St (st := [vI 0]) ?_ (by rw [e2]; rfl)
  refine r_if_ne M dL_sizes_30 (tgt := 37) rfl (by omega) (fun b30 => by omega) (fun b30 => ?_)
  refine r_iconst M dL_sizes_33 ?_
  refine r_goto M dL_sizes_34 (tgt := 38) rfl ?_
  refine r_zret MM dL_sizes_38 (by omega) ?_
  exact h
end XSmall
