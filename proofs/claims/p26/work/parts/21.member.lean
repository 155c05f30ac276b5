/-! ===== DefaultFund$Member ===== -/
section XMember
variable {g : Gl} {S : St} {Ret : Option AV → St → Prop} {Thr : String → St → Prop}
abbrev actv (S : St) (i : Nat) : Prop := S 4 i 3 = 0 ∨ S 4 i 3 = 1
/-- join: margin, share, room -/
def joinS (S : St) (i : Nat) (a b c : Int) : St := up3 (up3 (up3 S 4 i 4 a) 4 i 5 b) 4 i 6 c
theorem cn_join {i : Nat} (hi : i < 10) (a b c : Int) (h : Ret none (joinS S i a b c)) : Cn g yX1_join cX1_join 4 none 0 0 0 [vR 4 i, vI a, vI b, vI c] S Ret Thr := by
  refine enter (L := [some (vR 4 i), some (vI a), some (vI b), some (vI c)]) (by decide +kernel) (Nat.le_of_ble_eq_true rfl) rfl (fun K MM => ?_)
  have M := MM.mk
  refine r_aload_n M dX1_join_0 rfl ?_
  refine r_iload_n M dX1_join_1 rfl ?_
  refine r_putI M dX1_join_2 pk_X1_25 (show (_ : Nat) < 10 by omega) ?_
  refine r_aload_n M dX1_join_5 rfl ?_
  refine r_iload_n M dX1_join_6 rfl ?_
  refine r_putI M dX1_join_7 pk_X1_28 (show (_ : Nat) < 10 by omega) ?_
  refine r_aload_n M dX1_join_10 rfl ?_
  refine r_iload_n M dX1_join_11 rfl ?_
  refine r_putI M dX1_join_12 pk_X1_31 (show (_ : Nat) < 10 by omega) ?_
  refine r_vret MM dX1_join_15 ?_
  exact h
theorem cn_isActive {i : Nat} (hi : i < 10) (hr : -2147483648 ≤ S 4 i 3 ∧ S 4 i 3 ≤ 2147483647) (h1 : actv S i → Ret (some (vI 1)) S) (h0 : ¬ actv S i → Ret (some (vI 0)) S) : Cn g yX1_isActive cX1_isActive 1 (some .boolean) 0 0 0 [vR 4 i] S Ret Thr := by
  refine enter (L := [some (vR 4 i)]) (by decide +kernel) (Nat.le_of_ble_eq_true rfl) rfl (fun K MM => ?_)
  have M := MM.mk
  refine r_aload_n M dX1_isActive_0 rfl ?_
  refine r_getI M dX1_isActive_1 fk_X1_22 (show (_ : Nat) < 10 by omega) rfl ?_
  refine r_if_eq M dX1_isActive_4 (tgt := 15) rfl (by omega) (fun b4 => ?_) (fun b4 => ?_)
  · refine r_iconst M dX1_isActive_15 ?_
    refine r_goto M dX1_isActive_16 (tgt := 20) rfl ?_
    refine r_zret MM dX1_isActive_20 (by omega) ?_
    first | (exact h1 (by unfold actv; omega)) | (exact h0 (by unfold actv; omega))
  refine r_aload_n M dX1_isActive_7 rfl ?_
  refine r_getI M dX1_isActive_8 fk_X1_22 (show (_ : Nat) < 10 by omega) rfl ?_
  refine r_iconst M dX1_isActive_11 ?_
  refine r_icmp_ne M dX1_isActive_12 (tgt := 19) rfl (by omega) (fun b12 => ?_) (fun b12 => ?_)
  · refine r_iconst M dX1_isActive_19 ?_
    refine r_zret MM dX1_isActive_20 (by omega) ?_
    first | (exact h1 (by unfold actv; omega)) | (exact h0 (by unfold actv; omega))
  refine r_iconst M dX1_isActive_15 ?_
  refine r_goto M dX1_isActive_16 (tgt := 20) rfl ?_
  refine r_zret MM dX1_isActive_20 (by omega) ?_
  first | (exact h1 (by unfold actv; omega)) | (exact h0 (by unfold actv; omega))
theorem cn_freeRoom {i : Nat} (hi : i < 10) (h : Ret (some (vI (S 4 i 6 - S 4 i 2))) S) : Cn g yX1_freeRoom cX1_freeRoom 1 (some .int) 0 0 0 [vR 4 i] S Ret Thr := by
  refine enter (L := [some (vR 4 i)]) (by decide +kernel) (Nat.le_of_ble_eq_true rfl) rfl (fun K MM => ?_)
  have M := MM.mk
  refine r_aload_n M dX1_freeRoom_0 rfl ?_
  refine r_getI M dX1_freeRoom_1 fk_X1_31 (show (_ : Nat) < 10 by omega) rfl ?_
  refine r_aload_n M dX1_freeRoom_4 rfl ?_
  refine r_getI M dX1_freeRoom_5 fk_X1_19 (show (_ : Nat) < 10 by omega) rfl ?_
  refine r_isub M dX1_freeRoom_8 ?_
  refine r_iret MM dX1_freeRoom_9 ?_
  exact h
def takeS (S : St) (i : Nat) (lots : Int) : St := up3 (up3 (up3 S 5 i (S 4 i 1).toNat lots) 4 i 1 (S 4 i 1 + 1)) 4 i 2 (S 4 i 2 + lots)
abbrev taken (S : St) (i : Nat) (lots : Int) : Prop := lots ≤ S 4 i 6 - S 4 i 2 ∧ S 4 i 1 < 100
theorem cn_takesClient {i : Nat} (hi : i < 10) {lots : Int} (hl : 0 ≤ lots ∧ lots ≤ 1000) (hc : 0 ≤ S 4 i 1 ∧ S 4 i 1 ≤ 100) (hm : 0 ≤ S 4 i 2 ∧ S 4 i 2 ≤ 1000) (hr : 0 ≤ S 4 i 6 ∧ S 4 i 6 ≤ 1000) (h1 : taken S i lots → Ret (some (vI 1)) (takeS S i lots)) (h0 : ¬ taken S i lots → Ret (some (vI 0)) S) : Cn g yX1_takesClient cX1_takesClient 2 (some .boolean) 1 20 0 [vR 4 i, vI lots] S Ret Thr := by
  refine enter (L := [some (vR 4 i), some (vI lots)]) (by decide +kernel) (Nat.le_of_ble_eq_true rfl) rfl (fun K MM => ?_)
  have M := MM.mk
  refine r_iload_n M dX1_takesClient_0 rfl ?_
  refine r_aload_n M dX1_takesClient_1 rfl ?_
  refine r_callV0 MM dX1_takesClient_2 ck_X1_53 vk_X1_freeRoom ⟨by omega, by omega, by omega⟩ ⟨by decide, by decide, rfl⟩ (show (_ : Nat) < 10 by omega) (Nat.le_of_ble_eq_true rfl) (cn_freeRoom hi ?_)
  refine r_icmp_gt M dX1_takesClient_5 (tgt := 17) rfl (by omega) (fun b5 => ?_) (fun b5 => ?_)
  · refine r_iconst M dX1_takesClient_17 ?_
    refine r_zret MM dX1_takesClient_18 (by omega) ?_
    first | (exact h0 (by unfold taken; omega))
  refine r_aload_n M dX1_takesClient_8 rfl ?_
  refine r_getI M dX1_takesClient_9 fk_X1_15 (show (_ : Nat) < 10 by omega) rfl ?_
  refine r_bipush M dX1_takesClient_12 rfl ?_
  refine r_icmp_lt M dX1_takesClient_14 (tgt := 19) rfl (by omega) (fun b14 => ?_) (fun b14 => ?_)
  · refine r_aload_n M dX1_takesClient_19 rfl ?_
    refine r_getR M dX1_takesClient_20 fk_X1_9 (show (_ : Nat) < 10 by omega) rfl ?_
    refine r_aload_n M dX1_takesClient_23 rfl ?_
    refine r_getI M dX1_takesClient_24 fk_X1_15 (show (_ : Nat) < 10 by omega) rfl ?_
    refine r_iload_n M dX1_takesClient_27 rfl ?_
    refine r_iast M ((S 4 i 1).toNat) dX1_takesClient_28 ⟨rfl, by decide⟩ (show (_ : Nat) < 10 by omega) (by omega) (show (_ : Nat) < 100 by omega) (Nat.le_of_ble_eq_true rfl) ?_
    refine r_aload_n M dX1_takesClient_29 rfl ?_
    refine r_dupR M dX1_takesClient_30 ?_
    refine r_getV M dX1_takesClient_31 fk_X1_15 (show (_ : Nat) < 10 by omega) rfl (S 4 i 1) (by simp [up3]) ?_
    refine r_iconst M dX1_takesClient_34 ?_
    refine r_iadd M dX1_takesClient_35 ?_
    refine r_putI M dX1_takesClient_36 pk_X1_15 (show (_ : Nat) < 10 by omega) ?_
    refine r_aload_n M dX1_takesClient_39 rfl ?_
    refine r_dupR M dX1_takesClient_40 ?_
    refine r_getV M dX1_takesClient_41 fk_X1_19 (show (_ : Nat) < 10 by omega) rfl (S 4 i 2) (by simp [up3]) ?_
    refine r_iload_n M dX1_takesClient_44 rfl ?_
    refine r_iadd M dX1_takesClient_45 ?_
    refine r_putI M dX1_takesClient_46 pk_X1_19 (show (_ : Nat) < 10 by omega) ?_
    refine r_iconst M dX1_takesClient_49 ?_
    refine r_zret MM dX1_takesClient_50 (by omega) ?_
    exact h1 (by unfold taken; omega)
  refine r_iconst M dX1_takesClient_17 ?_
  refine r_zret MM dX1_takesClient_18 (by omega) ?_
  first | (exact h0 (by unfold taken; omega))
def dropS (S : St) (i : Nat) : St := up3 (up3 S 4 i 1 0) 4 i 2 0
theorem cn_dropClients {i : Nat} (hi : i < 10) (h : Ret none (dropS S i)) : Cn g yX1_dropClients cX1_dropClients 1 none 0 0 0 [vR 4 i] S Ret Thr := by
  refine enter (L := [some (vR 4 i)]) (by decide +kernel) (Nat.le_of_ble_eq_true rfl) rfl (fun K MM => ?_)
  have M := MM.mk
  refine r_aload_n M dX1_dropClients_0 rfl ?_
  refine r_iconst M dX1_dropClients_1 ?_
  refine r_putI M dX1_dropClients_2 pk_X1_15 (show (_ : Nat) < 10 by omega) ?_
  refine r_aload_n M dX1_dropClients_5 rfl ?_
  refine r_iconst M dX1_dropClients_6 ?_
  refine r_putI M dX1_dropClients_7 pk_X1_19 (show (_ : Nat) < 10 by omega) ?_
  refine r_vret MM dX1_dropClients_10 ?_
  exact h
theorem cn_raiseShare {i : Nat} (hi : i < 10) {p : Int} (hp : 0 ≤ p ∧ p ≤ 100000000) (hs : 0 ≤ S 4 i 5 ∧ S 4 i 5 ≤ 100000000) (h : Ret (some (vI (max 0 (p - S 4 i 5)))) (up3 S 4 i 5 (S 4 i 5 + max 0 (p - S 4 i 5)))) : Cn g yX1_raiseShare cX1_raiseShare 3 (some .int) 1 21 0 [vR 4 i, vI p] S Ret Thr := by
  refine enter (L := [some (vR 4 i), some (vI p), none]) (by decide +kernel) (Nat.le_of_ble_eq_true rfl) rfl (fun K MM => ?_)
  have M := MM.mk
  refine r_iconst M dX1_raiseShare_0 ?_
  refine r_iload_n M dX1_raiseShare_1 rfl ?_
  refine r_aload_n M dX1_raiseShare_2 rfl ?_
  refine r_getI M dX1_raiseShare_3 fk_X1_28 (show (_ : Nat) < 10 by omega) rfl ?_
  refine r_isub M dX1_raiseShare_6 ?_
  refine r_max M dX1_raiseShare_7 mm_X1_57 (by omega) ⟨by omega, by omega⟩ (Nat.le_of_ble_eq_true rfl) ?_
  refine r_istore_2 M dX1_raiseShare_10 (by decide) rfl ?_
  refine r_aload_n M dX1_raiseShare_11 rfl ?_
  refine r_dupR M dX1_raiseShare_12 ?_
  refine r_getI M dX1_raiseShare_13 fk_X1_28 (show (_ : Nat) < 10 by omega) rfl ?_
  refine r_iload_n M dX1_raiseShare_16 rfl ?_
  refine r_iadd M dX1_raiseShare_17 ?_
  refine r_putI M dX1_raiseShare_18 pk_X1_28 (show (_ : Nat) < 10 by omega) ?_
  refine r_iload_n M dX1_raiseShare_21 rfl ?_
  refine r_iret MM dX1_raiseShare_22 ?_
  exact h
theorem cn_raiseV {i : Nat} {v : Int} (hi : i < 10) {p : Int} (hp : 0 ≤ p ∧ p ≤ 100000000) (hv : S 4 i 5 = v) (hs : 0 ≤ v ∧ v ≤ 100000000) (h : Ret (some (vI (max 0 (p - v)))) (up3 S 4 i 5 (v + max 0 (p - v)))) : Cn g yX1_raiseShare cX1_raiseShare 3 (some .int) 1 21 0 [vR 4 i, vI p] S Ret Thr := by
  subst hv
  exact cn_raiseShare hi hp hs h
def loseS (S : St) (i : Nat) : St := dropS (up3 (up3 (up3 S 4 i 4 0) 4 i 5 0) 4 i 7 0) i
theorem cn_loseAll {i : Nat} (hi : i < 10) (h : Ret none (loseS S i)) : Cn g yX1_loseAll cX1_loseAll 1 none 1 20 0 [vR 4 i] S Ret Thr := by
  refine enter (L := [some (vR 4 i)]) (by decide +kernel) (Nat.le_of_ble_eq_true rfl) rfl (fun K MM => ?_)
  have M := MM.mk
  refine r_aload_n M dX1_loseAll_0 rfl ?_
  refine r_iconst M dX1_loseAll_1 ?_
  refine r_putI M dX1_loseAll_2 pk_X1_25 (show (_ : Nat) < 10 by omega) ?_
  refine r_aload_n M dX1_loseAll_5 rfl ?_
  refine r_iconst M dX1_loseAll_6 ?_
  refine r_putI M dX1_loseAll_7 pk_X1_28 (show (_ : Nat) < 10 by omega) ?_
  refine r_aload_n M dX1_loseAll_10 rfl ?_
  refine r_iconst M dX1_loseAll_11 ?_
  refine r_putI M dX1_loseAll_12 pk_X1_34 (show (_ : Nat) < 10 by omega) ?_
  refine r_aload_n M dX1_loseAll_15 rfl ?_
  refine r_callV0 MM dX1_loseAll_16 ck_X1_63 vk_X1_dropClients ⟨by omega, by omega, by omega⟩ ⟨by decide, by decide, rfl⟩ (show (_ : Nat) < 10 by omega) (Nat.le_of_ble_eq_true rfl) (cn_dropClients hi ?_)
  refine r_vret MM dX1_loseAll_19 ?_
  exact h
end XMember
