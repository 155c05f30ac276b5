/-! ===== DefaultFund: what the calls require, the plain calls ===== -/
def MI (S : St) (i : Nat) : Prop := (0 ≤ S 4 i 1 ∧ S 4 i 1 ≤ 100) ∧ (0 ≤ S 4 i 2 ∧ S 4 i 2 ≤ 100) ∧ (0 ≤ S 4 i 3 ∧ S 4 i 3 ≤ 3) ∧ (0 ≤ S 4 i 4 ∧ S 4 i 4 ≤ 1000000) ∧ (0 ≤ S 4 i 5 ∧ S 4 i 5 ≤ 2000000) ∧ (0 ≤ S 4 i 6 ∧ S 4 i 6 ≤ 100) ∧ (0 ≤ S 4 i 7 ∧ S 4 i 7 ≤ 1000000) ∧ (0 ≤ S 4 i 8 ∧ S 4 i 8 ≤ 1000000) ∧ (0 ≤ S 4 i 9 ∧ S 4 i 9 ≤ 1) ∧ (0 ≤ S 4 i 12 ∧ S 4 i 12 ≤ 2000000) ∧ ∀ k, k < 100 → 0 ≤ S 5 i k ∧ S 5 i k ≤ 20
/-- the numbers of the class's side are where they belong -/
def CI (S : St) : Prop := (0 ≤ S 0 0 3 ∧ S 0 0 3 ≤ 10) ∧ (0 ≤ S 0 0 4 ∧ S 0 0 4 ≤ 1000000) ∧ (-1 ≤ S 0 0 7 ∧ S 0 0 7 < 10) ∧ (0 ≤ S 0 0 5 ∧ S 0 0 5 ≤ 1000000) ∧ smA S ∧ smP S ∧ ∀ i, i < 10 → MI S i
theorem CI.cnt {S : St} (h : CI S) : 0 ≤ S 0 0 3 ∧ S 0 0 3 ≤ 10 := h.1
theorem CI.mem {S : St} (h : CI S) {i : Nat} (hi : i < 10) : MI S i := h.2.2.2.2.2.2 i hi
section XFund
variable {g : Gl} {S : St} {Ret : Option AV → St → Prop} {Thr : String → St → Prop}
theorem cn_existing {z : Int} (hz : -2147483648 ≤ z ∧ z ≤ 2147483647) (hc : 0 ≤ S 0 0 3 ∧ S 0 0 3 ≤ 10) (hok : ∀ j : Nat, z = j → j < 10 → (j : Int) < S 0 0 3 → Ret (some (vR 4 j)) S) (hbad : ¬ (0 ≤ z ∧ z < S 0 0 3) → Thr E_B S) : Cn g yX3_existing cX3_existing 2 (some (.object "DefaultFund$Member")) 6 90 1 [vR 0 0, vI z] S Ret Thr := by
  refine enter (L := [some (vR 0 0), some (vI z)]) (by decide +kernel) (Nat.le_of_ble_eq_true rfl) rfl (fun K MM => ?_)
  have M := MM.mk
  refine r_iload_n M dX3_existing_0 rfl ?_
  refine r_if_lt M dX3_existing_1 (tgt := 12) rfl (by omega) (fun b1 => ?_) (fun b1 => ?_)
  · refine r_throw MM tk_133_177_137 dX3_existing_12 dX3_existing_15 dX3_existing_16 dX3_existing_18 dX3_existing_21 ⟨by omega, by omega, by omega⟩ (Nat.le_of_ble_eq_true rfl) ?_
    exact hbad (by omega)
  refine r_iload_n M dX3_existing_4 rfl ?_
  refine r_aload_n M dX3_existing_5 rfl ?_
  refine r_getI M dX3_existing_6 fk_X3_29 (by decide) rfl ?_
  refine r_icmp_lt M dX3_existing_9 (tgt := 22) rfl (by omega) (fun b9 => ?_) (fun b9 => ?_)
  · refine r_aload_n M dX3_existing_22 rfl ?_
    refine r_getR M dX3_existing_23 fk_X3_11 (by decide) rfl ?_
    refine r_iload_n M dX3_existing_26 rfl ?_
    refine r_aaldM M (z.toNat) dX3_existing_27 (by omega) (by omega) ?_
    refine r_aret MM dX3_existing_28 ?_
    exact hok z.toNat (by omega) (by omega) (by omega)
  refine r_throw MM tk_133_177_137 dX3_existing_12 dX3_existing_15 dX3_existing_16 dX3_existing_18 dX3_existing_21 ⟨by omega, by omega, by omega⟩ (Nat.le_of_ble_eq_true rfl) ?_
  exact hbad (by omega)
theorem cn_requireBetween {v a b : Int} (hv : -2147483648 ≤ v ∧ v ≤ 2147483647) (ha : -2147483648 ≤ a ∧ a ≤ 2147483647) (hb : -2147483648 ≤ b ∧ b ≤ 2147483647) (hok : a ≤ v ∧ v ≤ b → Ret none S) (hbad : ¬ (a ≤ v ∧ v ≤ b) → Thr E_A S) : Cn g yX3_requireBetween cX3_requireBetween 3 none 6 90 1 [vI v, vI a, vI b] S Ret Thr := by
  refine enter (L := [some (vI v), some (vI a), some (vI b)]) (by decide +kernel) (Nat.le_of_ble_eq_true rfl) rfl (fun K MM => ?_)
  have M := MM.mk
  refine r_iload_n M dX3_requireBetween_0 rfl ?_
  refine r_iload_n M dX3_requireBetween_1 rfl ?_
  refine r_icmp_lt M dX3_requireBetween_2 (tgt := 10) rfl (by omega) (fun b2 => ?_) (fun b2 => ?_)
  · refine r_throw MM tk_179_181_183 dX3_requireBetween_10 dX3_requireBetween_13 dX3_requireBetween_14 dX3_requireBetween_16 dX3_requireBetween_19 ⟨by omega, by omega, by omega⟩ (Nat.le_of_ble_eq_true rfl) ?_
    exact hbad (by omega)
  refine r_iload_n M dX3_requireBetween_5 rfl ?_
  refine r_iload_n M dX3_requireBetween_6 rfl ?_
  refine r_icmp_le M dX3_requireBetween_7 (tgt := 20) rfl (by omega) (fun b7 => ?_) (fun b7 => ?_)
  · refine r_vret MM dX3_requireBetween_20 ?_
    exact hok (by omega)
  refine r_throw MM tk_179_181_183 dX3_requireBetween_10 dX3_requireBetween_13 dX3_requireBetween_14 dX3_requireBetween_16 dX3_requireBetween_19 ⟨by omega, by omega, by omega⟩ (Nat.le_of_ble_eq_true rfl) ?_
  exact hbad (by omega)
theorem cn_requireActive {i : Nat} (hi : i < 10) (hr : -2147483648 ≤ S 4 i 3 ∧ S 4 i 3 ≤ 2147483647) (hok : actv S i → Ret none S) (hbad : ¬ actv S i → Thr E_S S) : Cn g yX3_requireActive cX3_requireActive 1 none 6 90 1 [vR 4 i] S Ret Thr := by
  refine enter (L := [some (vR 4 i)]) (by decide +kernel) (Nat.le_of_ble_eq_true rfl) rfl (fun K MM => ?_)
  have M := MM.mk
  refine r_aload_n M dX3_requireActive_0 rfl ?_
  refine r_callV0 MM dX3_requireActive_1 ck_X3_96 vk_X1_isActive ⟨by omega, by omega, by omega⟩ ⟨by decide, by decide, rfl⟩ (show (_ : Nat) < 10 by omega) (Nat.le_of_ble_eq_true rfl) (cn_isActive hi hr (fun hq => ?_) (fun hq => ?_))
  · refine r_if_ne M dX3_requireActive_4 (tgt := 17) rfl (by omega) (fun b4 => ?_) (fun b4 => by omega)
    refine r_vret MM dX3_requireActive_17 ?_
    exact hok hq
  refine r_if_ne M dX3_requireActive_4 (tgt := 17) rfl (by omega) (fun b4 => by omega) (fun b4 => ?_)
  refine r_throw MM tk_51_184_55 dX3_requireActive_7 dX3_requireActive_10 dX3_requireActive_11 dX3_requireActive_13 dX3_requireActive_16 ⟨by omega, by omega, by omega⟩ (Nat.le_of_ble_eq_true rfl) ?_
  exact hbad hq
theorem cn_requireNoFailure (hr : -2147483648 ≤ S 0 0 7 ∧ S 0 0 7 ≤ 2147483647) (hok : S 0 0 7 = -1 → Ret none S) (hbad : S 0 0 7 ≠ -1 → Thr E_S S) : Cn g yX3_requireNoFailure cX3_requireNoFailure 1 none 6 90 1 [vR 0 0] S Ret Thr := by
  refine enter (L := [some (vR 0 0)]) (by decide +kernel) (Nat.le_of_ble_eq_true rfl) rfl (fun K MM => ?_)
  have M := MM.mk
  refine r_aload_n M dX3_requireNoFailure_0 rfl ?_
  refine r_getI M dX3_requireNoFailure_1 fk_X3_42 (by decide) rfl ?_
  refine r_iconst M dX3_requireNoFailure_4 ?_
  refine r_icmp_eq M dX3_requireNoFailure_5 (tgt := 18) rfl (by omega) (fun b5 => ?_) (fun b5 => ?_)
  · refine r_vret MM dX3_requireNoFailure_18 ?_
    exact hok b5
  refine r_throw MM tk_51_186_55 dX3_requireNoFailure_8 dX3_requireNoFailure_11 dX3_requireNoFailure_12 dX3_requireNoFailure_14 dX3_requireNoFailure_17 ⟨by omega, by omega, by omega⟩ (Nat.le_of_ble_eq_true rfl) ?_
  exact hbad b5
theorem cn_members (h : Ret (some (vI (S 0 0 3))) S) : Cn g yX3_members cX3_members 1 (some .int) 0 0 0 [vR 0 0] S Ret Thr := by
  refine enter (L := [some (vR 0 0)]) (by decide +kernel) (Nat.le_of_ble_eq_true rfl) rfl (fun K MM => ?_)
  have M := MM.mk
  refine r_aload_n M dX3_members_0 rfl ?_
  refine r_getI M dX3_members_1 fk_X3_29 (by decide) rfl ?_
  refine r_iret MM dX3_members_4 ?_
  exact h
theorem cn_capital (h : Ret (some (vI (S 0 0 4))) S) : Cn g yX3_capital cX3_capital 1 (some .int) 0 0 0 [vR 0 0] S Ret Thr := by
  refine enter (L := [some (vR 0 0)]) (by decide +kernel) (Nat.le_of_ble_eq_true rfl) rfl (fun K MM => ?_)
  have M := MM.mk
  refine r_aload_n M dX3_capital_0 rfl ?_
  refine r_getI M dX3_capital_1 fk_X3_33 (by decide) rfl ?_
  refine r_iret MM dX3_capital_4 ?_
  exact h
theorem cn_loss (h : Ret (some (vI (S 0 0 5))) S) : Cn g yX3_loss cX3_loss 1 (some .int) 0 0 0 [vR 0 0] S Ret Thr := by
  refine enter (L := [some (vR 0 0)]) (by decide +kernel) (Nat.le_of_ble_eq_true rfl) rfl (fun K MM => ?_)
  have M := MM.mk
  refine r_aload_n M dX3_loss_0 rfl ?_
  refine r_getI M dX3_loss_1 fk_X3_36 (by decide) rfl ?_
  refine r_iret MM dX3_loss_4 ?_
  exact h
theorem cn_uncovered (h : Ret (some (vI (S 0 0 6))) S) : Cn g yX3_uncovered cX3_uncovered 1 (some .int) 0 0 0 [vR 0 0] S Ret Thr := by
  refine enter (L := [some (vR 0 0)]) (by decide +kernel) (Nat.le_of_ble_eq_true rfl) rfl (fun K MM => ?_)
  have M := MM.mk
  refine r_aload_n M dX3_uncovered_0 rfl ?_
  refine r_getI M dX3_uncovered_1 fk_X3_39 (by decide) rfl ?_
  refine r_iret MM dX3_uncovered_4 ?_
  exact h
theorem cn_failing (h : Ret (some (vI (S 0 0 7))) S) : Cn g yX3_failing cX3_failing 1 (some .int) 0 0 0 [vR 0 0] S Ret Thr := by
  refine enter (L := [some (vR 0 0)]) (by decide +kernel) (Nat.le_of_ble_eq_true rfl) rfl (fun K MM => ?_)
  have M := MM.mk
  refine r_aload_n M dX3_failing_0 rfl ?_
  refine r_getI M dX3_failing_1 fk_X3_42 (by decide) rfl ?_
  refine r_iret MM dX3_failing_4 ?_
  exact h
theorem cn_state {z : Int} (hz : -2147483648 ≤ z ∧ z ≤ 2147483647) (hI : CI S) (hok : ∀ j : Nat, z = j → j < 10 → (j : Int) < S 0 0 3 → Ret (some (vI (S 4 j 3))) S) (hbad : ¬ (0 ≤ z ∧ z < S 0 0 3) → Thr E_B S) : Cn g yX3_state cX3_state 2 (some .int) 7 111 1 [vR 0 0, vI z] S Ret Thr := by
  refine enter (L := [some (vR 0 0), some (vI z)]) (by decide +kernel) (Nat.le_of_ble_eq_true rfl) rfl (fun K MM => ?_)
  have M := MM.mk
  refine r_aload_n M dX3_state_0 rfl ?_
  refine r_iload_n M dX3_state_1 rfl ?_
  refine r_callV1 MM dX3_state_2 ck_X3_61 vk_X3_existing ⟨by omega, by omega, by omega⟩ ⟨by decide, by decide, rfl⟩ (by decide) (Nat.le_of_ble_eq_true rfl) (cn_existing hz hI.cnt (fun j ej hj hjc => ?_) hbad)
  refine r_getI M dX3_state_5 fk_X3_85 (show (_ : Nat) < 10 by omega) rfl ?_
  refine r_iret MM dX3_state_8 ?_
  exact hok j ej hj hjc
theorem cn_margin {z : Int} (hz : -2147483648 ≤ z ∧ z ≤ 2147483647) (hI : CI S) (hok : ∀ j : Nat, z = j → j < 10 → (j : Int) < S 0 0 3 → Ret (some (vI (S 4 j 4))) S) (hbad : ¬ (0 ≤ z ∧ z < S 0 0 3) → Thr E_B S) : Cn g yX3_margin cX3_margin 2 (some .int) 7 111 1 [vR 0 0, vI z] S Ret Thr := by
  refine enter (L := [some (vR 0 0), some (vI z)]) (by decide +kernel) (Nat.le_of_ble_eq_true rfl) rfl (fun K MM => ?_)
  have M := MM.mk
  refine r_aload_n M dX3_margin_0 rfl ?_
  refine r_iload_n M dX3_margin_1 rfl ?_
  refine r_callV1 MM dX3_margin_2 ck_X3_61 vk_X3_existing ⟨by omega, by omega, by omega⟩ ⟨by decide, by decide, rfl⟩ (by decide) (Nat.le_of_ble_eq_true rfl) (cn_existing hz hI.cnt (fun j ej hj hjc => ?_) hbad)
  refine r_getI M dX3_margin_5 fk_X3_100 (show (_ : Nat) < 10 by omega) rfl ?_
  refine r_iret MM dX3_margin_8 ?_
  exact hok j ej hj hjc
theorem cn_share {z : Int} (hz : -2147483648 ≤ z ∧ z ≤ 2147483647) (hI : CI S) (hok : ∀ j : Nat, z = j → j < 10 → (j : Int) < S 0 0 3 → Ret (some (vI (S 4 j 5))) S) (hbad : ¬ (0 ≤ z ∧ z < S 0 0 3) → Thr E_B S) : Cn g yX3_share cX3_share 2 (some .int) 7 111 1 [vR 0 0, vI z] S Ret Thr := by
  refine enter (L := [some (vR 0 0), some (vI z)]) (by decide +kernel) (Nat.le_of_ble_eq_true rfl) rfl (fun K MM => ?_)
  have M := MM.mk
  refine r_aload_n M dX3_share_0 rfl ?_
  refine r_iload_n M dX3_share_1 rfl ?_
  refine r_callV1 MM dX3_share_2 ck_X3_61 vk_X3_existing ⟨by omega, by omega, by omega⟩ ⟨by decide, by decide, rfl⟩ (by decide) (Nat.le_of_ble_eq_true rfl) (cn_existing hz hI.cnt (fun j ej hj hjc => ?_) hbad)
  refine r_getI M dX3_share_5 fk_X3_116 (show (_ : Nat) < 10 by omega) rfl ?_
  refine r_iret MM dX3_share_8 ?_
  exact hok j ej hj hjc
theorem cn_gain {z : Int} (hz : -2147483648 ≤ z ∧ z ≤ 2147483647) (hI : CI S) (hok : ∀ j : Nat, z = j → j < 10 → (j : Int) < S 0 0 3 → Ret (some (vI (S 4 j 7))) S) (hbad : ¬ (0 ≤ z ∧ z < S 0 0 3) → Thr E_B S) : Cn g yX3_gain cX3_gain 2 (some .int) 7 111 1 [vR 0 0, vI z] S Ret Thr := by
  refine enter (L := [some (vR 0 0), some (vI z)]) (by decide +kernel) (Nat.le_of_ble_eq_true rfl) rfl (fun K MM => ?_)
  have M := MM.mk
  refine r_aload_n M dX3_gain_0 rfl ?_
  refine r_iload_n M dX3_gain_1 rfl ?_
  refine r_callV1 MM dX3_gain_2 ck_X3_61 vk_X3_existing ⟨by omega, by omega, by omega⟩ ⟨by decide, by decide, rfl⟩ (by decide) (Nat.le_of_ble_eq_true rfl) (cn_existing hz hI.cnt (fun j ej hj hjc => ?_) hbad)
  refine r_getI M dX3_gain_5 fk_X3_79 (show (_ : Nat) < 10 by omega) rfl ?_
  refine r_iret MM dX3_gain_8 ?_
  exact hok j ej hj hjc
theorem cn_assessed {z : Int} (hz : -2147483648 ≤ z ∧ z ≤ 2147483647) (hI : CI S) (hok : ∀ j : Nat, z = j → j < 10 → (j : Int) < S 0 0 3 → Ret (some (vI (S 4 j 10))) S) (hbad : ¬ (0 ≤ z ∧ z < S 0 0 3) → Thr E_B S) : Cn g yX3_assessed cX3_assessed 2 (some .int) 7 111 1 [vR 0 0, vI z] S Ret Thr := by
  refine enter (L := [some (vR 0 0), some (vI z)]) (by decide +kernel) (Nat.le_of_ble_eq_true rfl) rfl (fun K MM => ?_)
  have M := MM.mk
  refine r_aload_n M dX3_assessed_0 rfl ?_
  refine r_iload_n M dX3_assessed_1 rfl ?_
  refine r_callV1 MM dX3_assessed_2 ck_X3_61 vk_X3_existing ⟨by omega, by omega, by omega⟩ ⟨by decide, by decide, rfl⟩ (by decide) (Nat.le_of_ble_eq_true rfl) (cn_existing hz hI.cnt (fun j ej hj hjc => ?_) hbad)
  refine r_getI M dX3_assessed_5 fk_X3_168 (show (_ : Nat) < 10 by omega) rfl ?_
  refine r_iret MM dX3_assessed_8 ?_
  exact hok j ej hj hjc
theorem cn_clientLots {z : Int} (hz : -2147483648 ≤ z ∧ z ≤ 2147483647) (hI : CI S) (hok : ∀ j : Nat, z = j → j < 10 → (j : Int) < S 0 0 3 → Ret (some (vI (S 4 j 2))) S) (hbad : ¬ (0 ≤ z ∧ z < S 0 0 3) → Thr E_B S) : Cn g yX3_clientLots cX3_clientLots 2 (some .int) 7 111 1 [vR 0 0, vI z] S Ret Thr := by
  refine enter (L := [some (vR 0 0), some (vI z)]) (by decide +kernel) (Nat.le_of_ble_eq_true rfl) rfl (fun K MM => ?_)
  have M := MM.mk
  refine r_aload_n M dX3_clientLots_0 rfl ?_
  refine r_iload_n M dX3_clientLots_1 rfl ?_
  refine r_callV1 MM dX3_clientLots_2 ck_X3_61 vk_X3_existing ⟨by omega, by omega, by omega⟩ ⟨by decide, by decide, rfl⟩ (by decide) (Nat.le_of_ble_eq_true rfl) (cn_existing hz hI.cnt (fun j ej hj hjc => ?_) hbad)
  refine r_getI M dX3_clientLots_5 fk_X3_171 (show (_ : Nat) < 10 by omega) rfl ?_
  refine r_iret MM dX3_clientLots_8 ?_
  exact hok j ej hj hjc
theorem cn_won {z : Int} (hz : -2147483648 ≤ z ∧ z ≤ 2147483647) (hI : CI S) (hok : ∀ j : Nat, z = j → j < 10 → (j : Int) < S 0 0 3 → Ret (some (vI (S 4 j 11))) S) (hbad : ¬ (0 ≤ z ∧ z < S 0 0 3) → Thr E_B S) : Cn g yX3_won cX3_won 2 (some .int) 7 111 1 [vR 0 0, vI z] S Ret Thr := by
  refine enter (L := [some (vR 0 0), some (vI z)]) (by decide +kernel) (Nat.le_of_ble_eq_true rfl) rfl (fun K MM => ?_)
  have M := MM.mk
  refine r_aload_n M dX3_won_0 rfl ?_
  refine r_iload_n M dX3_won_1 rfl ?_
  refine r_callV1 MM dX3_won_2 ck_X3_61 vk_X3_existing ⟨by omega, by omega, by omega⟩ ⟨by decide, by decide, rfl⟩ (by decide) (Nat.le_of_ble_eq_true rfl) (cn_existing hz hI.cnt (fun j ej hj hjc => ?_) hbad)
  refine r_getI M dX3_won_5 fk_X3_174 (show (_ : Nat) < 10 by omega) rfl ?_
  refine r_iret MM dX3_won_8 ?_
  exact hok j ej hj hjc
theorem cn_addMember {a b c : Int} (ha : -2147483648 ≤ a ∧ a ≤ 2147483647) (hb : -2147483648 ≤ b ∧ b ≤ 2147483647) (hc : -2147483648 ≤ c ∧ c ≤ 2147483647) (hI : CI S)
    (hok : ∀ j : Nat, S 0 0 3 = j → j < 10 → (0 ≤ a ∧ a ≤ 1000000) → (0 ≤ b ∧ b ≤ 1000000) → (0 ≤ c ∧ c ≤ 100) → Ret (some (vI (j : Int))) (up3 (joinS S j a b c) 0 0 3 (j + 1 : Int)))
    (hA : ¬ ((0 ≤ a ∧ a ≤ 1000000) ∧ (0 ≤ b ∧ b ≤ 1000000) ∧ 0 ≤ c ∧ c ≤ 100) → Thr E_A S) (hS : (0 ≤ a ∧ a ≤ 1000000) ∧ (0 ≤ b ∧ b ≤ 1000000) ∧ (0 ≤ c ∧ c ≤ 100) → ¬ S 0 0 3 < 10 → Thr E_S S) : Cn g yX3_addMember cX3_addMember 4 (some .int) 7 112 4 [vR 0 0, vI a, vI b, vI c] S Ret Thr := by
  refine enter (L := [some (vR 0 0), some (vI a), some (vI b), some (vI c)]) (by decide +kernel) (Nat.le_of_ble_eq_true rfl) rfl (fun K MM => ?_)
  have M := MM.mk
  have hcn := hI.cnt
  refine r_iload_n M dX3_addMember_0 rfl ?_
  refine r_iconst M dX3_addMember_1 ?_
  refine r_ldc M dX3_addMember_2 kc_X3_46 (z := 1000000) rfl ?_
  refine r_callS3 MM dX3_addMember_4 sl_X3_47 st_X3_requireBetween rfl ck_X3_47 ⟨by omega, by omega, by omega⟩ (Nat.le_of_ble_eq_true rfl) (cn_requireBetween ha (by omega) (by omega) (fun q1 => ?_) (fun q => hA (by omega)))
  refine r_iload_n M dX3_addMember_7 rfl ?_
  refine r_iconst M dX3_addMember_8 ?_
  refine r_ldc M dX3_addMember_9 kc_X3_46 (z := 1000000) rfl ?_
  refine r_callS3 MM dX3_addMember_11 sl_X3_47 st_X3_requireBetween rfl ck_X3_47 ⟨by omega, by omega, by omega⟩ (Nat.le_of_ble_eq_true rfl) (cn_requireBetween hb (by omega) (by omega) (fun q2 => ?_) (fun q => hA (by omega)))
  refine r_iload_n M dX3_addMember_14 rfl ?_
  refine r_iconst M dX3_addMember_15 ?_
  refine r_bipush M dX3_addMember_16 rfl ?_
  refine r_callS3 MM dX3_addMember_18 sl_X3_47 st_X3_requireBetween rfl ck_X3_47 ⟨by omega, by omega, by omega⟩ (Nat.le_of_ble_eq_true rfl) (cn_requireBetween hc (by omega) (by omega) (fun q3 => ?_) (fun q => hA (by omega)))
  refine r_aload_n M dX3_addMember_21 rfl ?_
  refine r_getI M dX3_addMember_22 fk_X3_29 (by decide) rfl ?_
  refine r_bipush M dX3_addMember_25 rfl ?_
  refine r_icmp_lt M dX3_addMember_27 (tgt := 40) rfl (by omega) (fun b27 => ?_) (fun b27 => ?_)
  · refine r_aload_n M dX3_addMember_40 rfl ?_
    refine r_getR M dX3_addMember_41 fk_X3_11 (by decide) rfl ?_
    refine r_aload_n M dX3_addMember_44 rfl ?_
    refine r_getI M dX3_addMember_45 fk_X3_29 (by decide) rfl ?_
    refine r_aaldM M ((S 0 0 3).toNat) dX3_addMember_48 (by omega) (by omega) ?_
    refine r_iload_n M dX3_addMember_49 rfl ?_
    refine r_iload_n M dX3_addMember_50 rfl ?_
    refine r_iload_n M dX3_addMember_51 rfl ?_
    refine r_callV3 MM dX3_addMember_52 ck_X3_58 vk_X1_join ⟨by omega, by omega, by omega⟩ ⟨by decide, by decide, rfl⟩ (show (_ : Nat) < 10 by omega) (Nat.le_of_ble_eq_true rfl) (cn_join (by omega) a b c ?_)
    refine r_aload_n M dX3_addMember_55 rfl ?_
    refine r_dupR M dX3_addMember_56 ?_
    refine r_getV M dX3_addMember_57 fk_X3_29 (by decide) rfl (S 0 0 3) (by simp [joinS, up3]) ?_
    refine r_iconst M dX3_addMember_60 ?_
    refine r_iadd M dX3_addMember_61 ?_
    refine r_putI M dX3_addMember_62 pk_X3_29 (by decide) ?_
    refine r_aload_n M dX3_addMember_65 rfl ?_
    refine r_getV M dX3_addMember_66 fk_X3_29 (by decide) rfl (S 0 0 3 + 1) (by simp [up3]) ?_
    refine r_iconst M dX3_addMember_69 ?_
    refine r_isub M dX3_addMember_70 ?_
    refine r_iret MM dX3_addMember_71 ?_
    have h := hok (S 0 0 3).toNat (by omega) (by omega) q1 q2 q3; rw [show (((S 0 0 3).toNat : Nat) : Int) = S 0 0 3 by omega] at h; exact ret_v h (by congr 2; omega)
  refine r_throw MM tk_51_53_55 dX3_addMember_30 dX3_addMember_33 dX3_addMember_34 dX3_addMember_36 dX3_addMember_39 ⟨by omega, by omega, by omega⟩ (Nat.le_of_ble_eq_true rfl) ?_
  exact hS ⟨q1, q2, q3⟩ (by omega)
theorem cn_addClient {z v : Int} (hz : -2147483648 ≤ z ∧ z ≤ 2147483647) (hv : -2147483648 ≤ v ∧ v ≤ 2147483647) (hI : CI S)
    (hok : ∀ j : Nat, z = j → j < 10 → (j : Int) < S 0 0 3 → (1 ≤ v ∧ v ≤ 20) → actv S j → taken S j v → Ret (some (vI (S 4 j 6 - (S 4 j 2 + v)))) (takeS S j v))
    (hB : ¬ (0 ≤ z ∧ z < S 0 0 3) → Thr E_B S) (hA : (0 ≤ z ∧ z < S 0 0 3) → ¬ (1 ≤ v ∧ v ≤ 20) → Thr E_A S) (hS : ∀ j : Nat, z = j → j < 10 → (j : Int) < S 0 0 3 → (1 ≤ v ∧ v ≤ 20) → ¬ (actv S j ∧ taken S j v) → Thr E_S S) : Cn g yX3_addClient cX3_addClient 4 (some .int) 7 112 4 [vR 0 0, vI z, vI v] S Ret Thr := by
  refine enter (L := [some (vR 0 0), some (vI z), some (vI v), none]) (by decide +kernel) (Nat.le_of_ble_eq_true rfl) rfl (fun K MM => ?_)
  have M := MM.mk
  refine r_aload_n M dX3_addClient_0 rfl ?_
  refine r_iload_n M dX3_addClient_1 rfl ?_
  refine r_callV1 MM dX3_addClient_2 ck_X3_61 vk_X3_existing ⟨by omega, by omega, by omega⟩ ⟨by decide, by decide, rfl⟩ (by decide) (Nat.le_of_ble_eq_true rfl) (cn_existing hz hI.cnt (fun j ej hj hjc => ?_) hB)
  refine r_astore_3 M dX3_addClient_5 (by decide) rfl ?_
  refine r_iload_n M dX3_addClient_6 rfl ?_
  refine r_iconst M dX3_addClient_7 ?_
  refine r_bipush M dX3_addClient_8 rfl ?_
  refine r_callS3 MM dX3_addClient_10 sl_X3_47 st_X3_requireBetween rfl ck_X3_47 ⟨by omega, by omega, by omega⟩ (Nat.le_of_ble_eq_true rfl) (cn_requireBetween hv (by omega) (by omega) (fun q2 => ?_) (fun q => hA (by omega) q))
  refine r_aload_n M dX3_addClient_13 rfl ?_
  refine r_callS1 MM dX3_addClient_14 sl_X3_65 st_X3_requireActive rfl ck_X3_65 ⟨by omega, by omega, by omega⟩ (Nat.le_of_ble_eq_true rfl) (cn_requireActive hj (by have h9 := hI.mem hj; unfold MI at h9; omega) (fun q3 => ?_) (fun q => hS j ej hj hjc q2 (fun w => q w.1)))
  refine r_aload_n M dX3_addClient_17 rfl ?_
  refine r_iload_n M dX3_addClient_18 rfl ?_
  refine r_callV1 MM dX3_addClient_19 ck_X3_69 vk_X1_takesClient ⟨by omega, by omega, by omega⟩ ⟨by decide, by decide, rfl⟩ (show (_ : Nat) < 10 by omega) (Nat.le_of_ble_eq_true rfl) (cn_takesClient hj (by omega) (by have h9 := hI.mem hj; unfold MI at h9; omega) (by have h9 := hI.mem hj; unfold MI at h9; omega) (by have h9 := hI.mem hj; unfold MI at h9; omega) (fun q4 => ?_) (fun q4 => ?_))
  · refine r_if_ne M dX3_addClient_22 (tgt := 35) rfl (by omega) (fun b22 => ?_) (fun b22 => by omega)
    refine r_aload_n M dX3_addClient_35 rfl ?_
    refine r_callV0 MM dX3_addClient_36 ck_X3_75 vk_X1_freeRoom ⟨by omega, by omega, by omega⟩ ⟨by decide, by decide, rfl⟩ (show (_ : Nat) < 10 by omega) (Nat.le_of_ble_eq_true rfl) (cn_freeRoom hj ?_)
    refine r_iret MM dX3_addClient_39 ?_
    exact ret_v (hok j ej hj hjc q2 q3 q4) (by congr 2; simp [takeS, up3])
  refine r_if_ne M dX3_addClient_22 (tgt := 35) rfl (by omega) (fun b22 => by omega) (fun b22 => ?_)
  refine r_throw MM tk_51_73_55 dX3_addClient_25 dX3_addClient_28 dX3_addClient_29 dX3_addClient_31 dX3_addClient_34 ⟨by omega, by omega, by omega⟩ (Nat.le_of_ble_eq_true rfl) ?_
  exact hS j ej hj hjc q2 (fun w => q4 w.2)
theorem cn_setGain {z v : Int} (hz : -2147483648 ≤ z ∧ z ≤ 2147483647) (hv : -2147483648 ≤ v ∧ v ≤ 2147483647) (hI : CI S)
    (hok : ∀ j : Nat, z = j → j < 10 → (j : Int) < S 0 0 3 → (0 ≤ v ∧ v ≤ 1000000) → actv S j → Ret (some (vI (S 4 j 7))) (up3 S 4 j 7 v))
    (hB : ¬ (0 ≤ z ∧ z < S 0 0 3) → Thr E_B S) (hA : (0 ≤ z ∧ z < S 0 0 3) → ¬ (0 ≤ v ∧ v ≤ 1000000) → Thr E_A S) (hS : ∀ j : Nat, z = j → j < 10 → (j : Int) < S 0 0 3 → (0 ≤ v ∧ v ≤ 1000000) → ¬ actv S j → Thr E_S S) : Cn g yX3_setGain cX3_setGain 5 (some .int) 7 112 3 [vR 0 0, vI z, vI v] S Ret Thr := by
  refine enter (L := [some (vR 0 0), some (vI z), some (vI v), none, none]) (by decide +kernel) (Nat.le_of_ble_eq_true rfl) rfl (fun K MM => ?_)
  have M := MM.mk
  refine r_aload_n M dX3_setGain_0 rfl ?_
  refine r_iload_n M dX3_setGain_1 rfl ?_
  refine r_callV1 MM dX3_setGain_2 ck_X3_61 vk_X3_existing ⟨by omega, by omega, by omega⟩ ⟨by decide, by decide, rfl⟩ (by decide) (Nat.le_of_ble_eq_true rfl) (cn_existing hz hI.cnt (fun j ej hj hjc => ?_) hB)
  refine r_astore_3 M dX3_setGain_5 (by decide) rfl ?_
  refine r_iload_n M dX3_setGain_6 rfl ?_
  refine r_iconst M dX3_setGain_7 ?_
  refine r_ldc M dX3_setGain_8 kc_X3_46 (z := 1000000) rfl ?_
  refine r_callS3 MM dX3_setGain_10 sl_X3_47 st_X3_requireBetween rfl ck_X3_47 ⟨by omega, by omega, by omega⟩ (Nat.le_of_ble_eq_true rfl) (cn_requireBetween hv (by omega) (by omega) (fun q2 => ?_) (fun q => hA (by omega) q))
  refine r_aload_n M dX3_setGain_13 rfl ?_
  refine r_callS1 MM dX3_setGain_14 sl_X3_65 st_X3_requireActive rfl ck_X3_65 ⟨by omega, by omega, by omega⟩ (Nat.le_of_ble_eq_true rfl) (cn_requireActive hj (by have h9 := hI.mem hj; unfold MI at h9; omega) (fun q3 => ?_) (fun q => hS j ej hj hjc q2 q))
  refine r_aload_n M dX3_setGain_17 rfl ?_
  refine r_getI M dX3_setGain_18 fk_X3_79 (show (_ : Nat) < 10 by omega) rfl ?_
  refine r_istore_4 M dX3_setGain_21 (by decide) rfl ?_
  refine r_aload_n M dX3_setGain_23 rfl ?_
  refine r_iload_n M dX3_setGain_24 rfl ?_
  refine r_putI M dX3_setGain_25 pk_X3_79 (show (_ : Nat) < 10 by omega) ?_
  refine r_iload M dX3_setGain_28 rfl ?_
  refine r_iret MM dX3_setGain_30 ?_
  exact hok j ej hj hjc q2 q3
theorem cn_setTested {z v : Int} (hz : -2147483648 ≤ z ∧ z ≤ 2147483647) (hv : -2147483648 ≤ v ∧ v ≤ 2147483647) (hI : CI S)
    (hok : ∀ j : Nat, z = j → j < 10 → (j : Int) < S 0 0 3 → (0 ≤ v ∧ v ≤ 1000000) → actv S j → Ret (some (vI (S 4 j 8))) (up3 S 4 j 8 v))
    (hB : ¬ (0 ≤ z ∧ z < S 0 0 3) → Thr E_B S) (hA : (0 ≤ z ∧ z < S 0 0 3) → ¬ (0 ≤ v ∧ v ≤ 1000000) → Thr E_A S) (hS : ∀ j : Nat, z = j → j < 10 → (j : Int) < S 0 0 3 → (0 ≤ v ∧ v ≤ 1000000) → ¬ actv S j → Thr E_S S) : Cn g yX3_setTested cX3_setTested 5 (some .int) 7 112 3 [vR 0 0, vI z, vI v] S Ret Thr := by
  refine enter (L := [some (vR 0 0), some (vI z), some (vI v), none, none]) (by decide +kernel) (Nat.le_of_ble_eq_true rfl) rfl (fun K MM => ?_)
  have M := MM.mk
  refine r_aload_n M dX3_setTested_0 rfl ?_
  refine r_iload_n M dX3_setTested_1 rfl ?_
  refine r_callV1 MM dX3_setTested_2 ck_X3_61 vk_X3_existing ⟨by omega, by omega, by omega⟩ ⟨by decide, by decide, rfl⟩ (by decide) (Nat.le_of_ble_eq_true rfl) (cn_existing hz hI.cnt (fun j ej hj hjc => ?_) hB)
  refine r_astore_3 M dX3_setTested_5 (by decide) rfl ?_
  refine r_iload_n M dX3_setTested_6 rfl ?_
  refine r_iconst M dX3_setTested_7 ?_
  refine r_ldc M dX3_setTested_8 kc_X3_46 (z := 1000000) rfl ?_
  refine r_callS3 MM dX3_setTested_10 sl_X3_47 st_X3_requireBetween rfl ck_X3_47 ⟨by omega, by omega, by omega⟩ (Nat.le_of_ble_eq_true rfl) (cn_requireBetween hv (by omega) (by omega) (fun q2 => ?_) (fun q => hA (by omega) q))
  refine r_aload_n M dX3_setTested_13 rfl ?_
  refine r_callS1 MM dX3_setTested_14 sl_X3_65 st_X3_requireActive rfl ck_X3_65 ⟨by omega, by omega, by omega⟩ (Nat.le_of_ble_eq_true rfl) (cn_requireActive hj (by have h9 := hI.mem hj; unfold MI at h9; omega) (fun q3 => ?_) (fun q => hS j ej hj hjc q2 q))
  refine r_aload_n M dX3_setTested_17 rfl ?_
  refine r_getI M dX3_setTested_18 fk_X3_82 (show (_ : Nat) < 10 by omega) rfl ?_
  refine r_istore_4 M dX3_setTested_21 (by decide) rfl ?_
  refine r_aload_n M dX3_setTested_23 rfl ?_
  refine r_iload_n M dX3_setTested_24 rfl ?_
  refine r_putI M dX3_setTested_25 pk_X3_82 (show (_ : Nat) < 10 by omega) ?_
  refine r_iload M dX3_setTested_28 rfl ?_
  refine r_iret MM dX3_setTested_30 ?_
  exact hok j ej hj hjc q2 q3
theorem cn_setCapital {v : Int} (hv : -2147483648 ≤ v ∧ v ≤ 2147483647) (hok : (0 ≤ v ∧ v ≤ 1000000) → Ret (some (vI (S 0 0 4))) (up3 S 0 0 4 v)) (hA : ¬ (0 ≤ v ∧ v ≤ 1000000) → Thr E_A S) : Cn g yX3_setCapital cX3_setCapital 3 (some .int) 7 112 1 [vR 0 0, vI v] S Ret Thr := by
  refine enter (L := [some (vR 0 0), some (vI v), none]) (by decide +kernel) (Nat.le_of_ble_eq_true rfl) rfl (fun K MM => ?_)
  have M := MM.mk
  refine r_iload_n M dX3_setCapital_0 rfl ?_
  refine r_iconst M dX3_setCapital_1 ?_
  refine r_ldc M dX3_setCapital_2 kc_X3_46 (z := 1000000) rfl ?_
  refine r_callS3 MM dX3_setCapital_4 sl_X3_47 st_X3_requireBetween rfl ck_X3_47 ⟨by omega, by omega, by omega⟩ (Nat.le_of_ble_eq_true rfl) (cn_requireBetween hv (by omega) (by omega) (fun q2 => ?_) hA)
  refine r_aload_n M dX3_setCapital_7 rfl ?_
  refine r_getI M dX3_setCapital_8 fk_X3_33 (by decide) rfl ?_
  refine r_istore_2 M dX3_setCapital_11 (by decide) rfl ?_
  refine r_aload_n M dX3_setCapital_12 rfl ?_
  refine r_iload_n M dX3_setCapital_13 rfl ?_
  refine r_putI M dX3_setCapital_14 pk_X3_33 (by decide) ?_
  refine r_iload_n M dX3_setCapital_17 rfl ?_
  refine r_iret MM dX3_setCapital_18 ?_
  exact hok q2
theorem cn_giveNotice {z : Int} (hz : -2147483648 ≤ z ∧ z ≤ 2147483647) (hI : CI S) (hok : ∀ j : Nat, z = j → j < 10 → (j : Int) < S 0 0 3 → S 4 j 3 = 0 → S 0 0 7 = -1 → Ret none (up3 S 4 j 3 1))
    (hB : ¬ (0 ≤ z ∧ z < S 0 0 3) → Thr E_B S) (hS : ∀ j : Nat, z = j → j < 10 → (j : Int) < S 0 0 3 → ¬ (S 4 j 3 = 0 ∧ S 0 0 7 = -1) → Thr E_S S) : Cn g yX3_giveNotice cX3_giveNotice 3 none 7 111 3 [vR 0 0, vI z] S Ret Thr := by
  refine enter (L := [some (vR 0 0), some (vI z), none]) (by decide +kernel) (Nat.le_of_ble_eq_true rfl) rfl (fun K MM => ?_)
  have M := MM.mk
  have hf := hI.2.2.1
  refine r_aload_n M dX3_giveNotice_0 rfl ?_
  refine r_iload_n M dX3_giveNotice_1 rfl ?_
  refine r_callV1 MM dX3_giveNotice_2 ck_X3_61 vk_X3_existing ⟨by omega, by omega, by omega⟩ ⟨by decide, by decide, rfl⟩ (by decide) (Nat.le_of_ble_eq_true rfl) (cn_existing hz hI.cnt (fun j ej hj hjc => ?_) hB)
  refine r_astore_2 M dX3_giveNotice_5 (by decide) rfl ?_
  refine r_aload_n M dX3_giveNotice_6 rfl ?_
  refine r_getI M dX3_giveNotice_7 fk_X3_85 (show (_ : Nat) < 10 by omega) rfl ?_
  refine r_if_eq M dX3_giveNotice_10 (tgt := 23) rfl (by have h9 := hI.mem hj; unfold MI at h9; omega) (fun b10 => ?_) (fun b10 => ?_)
  · refine r_aload_n M dX3_giveNotice_23 rfl ?_
    refine r_callV0 MM dX3_giveNotice_24 ck_X3_90 vk_X3_requireNoFailure ⟨by omega, by omega, by omega⟩ ⟨by decide, by decide, rfl⟩ (by decide) (Nat.le_of_ble_eq_true rfl) (cn_requireNoFailure (by omega) (fun q => ?_) (fun q => hS j ej hj hjc (fun w => q w.2)))
    refine r_aload_n M dX3_giveNotice_27 rfl ?_
    refine r_iconst M dX3_giveNotice_28 ?_
    refine r_putI M dX3_giveNotice_29 pk_X3_85 (show (_ : Nat) < 10 by omega) ?_
    refine r_vret MM dX3_giveNotice_32 ?_
    exact hok j ej hj hjc b10 q
  refine r_throw MM tk_51_88_55 dX3_giveNotice_13 dX3_giveNotice_16 dX3_giveNotice_17 dX3_giveNotice_19 dX3_giveNotice_22 ⟨by omega, by omega, by omega⟩ (Nat.le_of_ble_eq_true rfl) ?_
  exact hS j ej hj hjc (fun w => b10 w.1)
theorem cn_bid {z zl v : Int} (hz : -2147483648 ≤ z ∧ z ≤ 2147483647) (hl : -2147483648 ≤ zl ∧ zl ≤ 2147483647) (hv : -2147483648 ≤ v ∧ v ≤ 2147483647) (hI : CI S)
    (hok : ∀ j l : Nat, z = j → zl = l → j < 10 → l < 120 → (j : Int) < S 0 0 3 → S 0 0 7 ≠ -1 → (l : Int) < S 2 0 1 → (-1000 ≤ v ∧ v ≤ 1000) → actv S j → S 7 j l = -1001 → Ret none (up3 S 7 j l v))
    (hB : ¬ ((0 ≤ z ∧ z < S 0 0 3) ∧ S 0 0 7 ≠ -1 ∧ 0 ≤ zl ∧ zl < S 2 0 1) → Thr E_B S) (hA : (0 ≤ z ∧ z < S 0 0 3) ∧ S 0 0 7 ≠ -1 ∧ (0 ≤ zl ∧ zl < S 2 0 1) → ¬ (-1000 ≤ v ∧ v ≤ 1000) → Thr E_A S)
    (hS : ∀ j l : Nat, z = j → zl = l → j < 10 → l < 120 → (j : Int) < S 0 0 3 → S 0 0 7 ≠ -1 → (l : Int) < S 2 0 1 → (-1000 ≤ v ∧ v ≤ 1000) → ¬ (actv S j ∧ S 7 j l = -1001) → Thr E_S S) : Cn g yX3_bid cX3_bid 5 none 7 112 5 [vR 0 0, vI z, vI zl, vI v] S Ret Thr := by
  refine enter (L := [some (vR 0 0), some (vI z), some (vI zl), some (vI v), none]) (by decide +kernel) (Nat.le_of_ble_eq_true rfl) rfl (fun K MM => ?_)
  have M := MM.mk
  have hf := hI.2.2.1
  have hA9 : smA S := hI.2.2.2.2.1
  have hA1 := hA9.1
  refine r_aload_n M dX3_bid_0 rfl ?_
  refine r_iload_n M dX3_bid_1 rfl ?_
  refine r_callV1 MM dX3_bid_2 ck_X3_61 vk_X3_existing ⟨by omega, by omega, by omega⟩ ⟨by decide, by decide, rfl⟩ (by decide) (Nat.le_of_ble_eq_true rfl) (cn_existing hz hI.cnt (fun j ej hj hjc => ?_) (fun q => hB (fun w => q w.1)))
  refine r_astore_4 M dX3_bid_5 (by decide) rfl ?_
  refine r_aload_n M dX3_bid_7 rfl ?_
  refine r_getI M dX3_bid_8 fk_X3_42 (by decide) rfl ?_
  refine r_iconst M dX3_bid_11 ?_
  refine r_icmp_eq M dX3_bid_12 (tgt := 26) rfl (by omega) (fun b12 => ?_) (fun b12 => ?_)
  · refine r_throw MM tk_133_135_137 dX3_bid_26 dX3_bid_29 dX3_bid_30 dX3_bid_32 dX3_bid_35 ⟨by omega, by omega, by omega⟩ (Nat.le_of_ble_eq_true rfl) ?_
    exact hB (by omega)
  refine r_aload_n M dX3_bid_15 rfl ?_
  refine r_getR M dX3_bid_16 fk_X3_18 (by decide) rfl ?_
  refine r_iload_n M dX3_bid_19 rfl ?_
  refine r_callV1 MM dX3_bid_20 ck_X3_130 vk_X0_hasLot ⟨by omega, by omega, by omega⟩ ⟨by decide, by decide, rfl⟩ (by decide) (Nat.le_of_ble_eq_true rfl) (cn_hasLot hl hA1 (fun q5 => ?_) (fun q5 => ?_))
  · refine r_if_ne M dX3_bid_23 (tgt := 36) rfl (by omega) (fun b23 => ?_) (fun b23 => by omega)
    refine r_iload_n M dX3_bid_36 rfl ?_
    refine r_sipush M dX3_bid_37 rfl ?_
    refine r_sipush M dX3_bid_40 rfl ?_
    refine r_callS3 MM dX3_bid_43 sl_X3_47 st_X3_requireBetween rfl ck_X3_47 ⟨by omega, by omega, by omega⟩ (Nat.le_of_ble_eq_true rfl) (cn_requireBetween hv (by omega) (by omega) (fun q2 => ?_) (fun q => hA (by omega) q))
    refine r_aload M dX3_bid_46 rfl ?_
    refine r_callS1 MM dX3_bid_48 sl_X3_65 st_X3_requireActive rfl ck_X3_65 ⟨by omega, by omega, by omega⟩ (Nat.le_of_ble_eq_true rfl) (cn_requireActive hj (by have h9 := hI.mem hj; unfold MI at h9; omega) (fun q3 => ?_) (fun q => hS j zl.toNat ej (by omega) hj (by omega) hjc b12 (by omega) q2 (fun w => q w.1)))
    refine r_aload_n M dX3_bid_51 rfl ?_
    refine r_getR M dX3_bid_52 fk_X3_18 (by decide) rfl ?_
    refine r_iload_n M dX3_bid_55 rfl ?_
    refine r_iload_n M dX3_bid_56 rfl ?_
    refine r_callV2 MM dX3_bid_57 ck_X3_138 vk_X0_bidOf ⟨by omega, by omega, by omega⟩ ⟨by decide, by decide, rfl⟩ (by decide) (Nat.le_of_ble_eq_true rfl) (cn_bidOf zl.toNat ej (by omega) hj (by omega) ?_)
    refine r_sipush M dX3_bid_60 rfl ?_
    refine r_icmp_eq M dX3_bid_63 (tgt := 76) rfl (by have h9 := hA9.2 j hj zl.toNat (by omega); omega) (fun b63 => ?_) (fun b63 => ?_)
    · refine r_aload_n M dX3_bid_76 rfl ?_
      refine r_getR M dX3_bid_77 fk_X3_18 (by decide) rfl ?_
      refine r_iload_n M dX3_bid_80 rfl ?_
      refine r_iload_n M dX3_bid_81 rfl ?_
      refine r_iload_n M dX3_bid_82 rfl ?_
      refine r_callV3 MM dX3_bid_83 ck_X3_144 vk_X0_enter ⟨by omega, by omega, by omega⟩ ⟨by decide, by decide, rfl⟩ (by decide) (Nat.le_of_ble_eq_true rfl) (cn_enterA zl.toNat ej (by omega) hj (by omega) v ?_)
      refine r_vret MM dX3_bid_86 ?_
      exact hok j zl.toNat ej (by omega) hj (by omega) hjc b12 (by omega) q2 q3 b63
    refine r_throw MM tk_51_142_55 dX3_bid_66 dX3_bid_69 dX3_bid_70 dX3_bid_72 dX3_bid_75 ⟨by omega, by omega, by omega⟩ (Nat.le_of_ble_eq_true rfl) ?_
    exact hS j zl.toNat ej (by omega) hj (by omega) hjc b12 (by omega) q2 (fun w => b63 w.2)
  refine r_if_ne M dX3_bid_23 (tgt := 36) rfl (by omega) (fun b23 => by omega) (fun b23 => ?_)
  refine r_throw MM tk_133_135_137 dX3_bid_26 dX3_bid_29 dX3_bid_30 dX3_bid_32 dX3_bid_35 ⟨by omega, by omega, by omega⟩ (Nat.le_of_ble_eq_true rfl) ?_
  exact hB (by omega)
end XFund
