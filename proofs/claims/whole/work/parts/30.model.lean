/-! ===== the reference: plain methods ===== -/
/-- the numbers of the reference's side are where they belong -/
def mR (S : St) : Prop := ∀ k, k < 10 → (0 ≤ S 12 0 k ∧ S 12 0 k ≤ 1000000) ∧ (0 ≤ S 13 0 k ∧ S 13 0 k ≤ 2000000) ∧ (0 ≤ S 14 0 k ∧ S 14 0 k ≤ 100) ∧ (0 ≤ S 15 0 k ∧ S 15 0 k ≤ 1000000) ∧ (0 ≤ S 16 0 k ∧ S 16 0 k ≤ 1000000) ∧ (0 ≤ S 17 0 k ∧ S 17 0 k ≤ 3) ∧ (0 ≤ S 18 0 k ∧ S 18 0 k ≤ 1) ∧ 0 ≤ S 25 0 k ∧ S 25 0 k ≤ 2000000
def mO (S : St) : Prop := ∀ k, k < 1000 → (-1 ≤ S 21 0 k ∧ S 21 0 k < 10) ∧ (0 ≤ S 22 0 k ∧ S 22 0 k ≤ 20) ∧ 0 ≤ S 23 0 k ∧ S 23 0 k ≤ 1000000
def mB (S : St) : Prop := ∀ k, k < 1200 → -1000 ≤ S 24 0 k ∧ S 24 0 k ≤ 5000
def mP (S : St) : Prop := ∀ k, k < 10 → (0 ≤ S 26 0 k ∧ S 26 0 k ≤ 100000000) ∧ (0 ≤ S 27 0 k ∧ S 27 0 k ≤ 100000000) ∧ 0 ≤ S 28 0 k ∧ S 28 0 k ≤ 100000000
def mN (S : St) : Prop := (0 ≤ S 11 0 9 ∧ S 11 0 9 ≤ 10) ∧ (0 ≤ S 11 0 13 ∧ S 11 0 13 ≤ 1000000) ∧ (0 ≤ S 11 0 14 ∧ S 11 0 14 ≤ 999) ∧ (0 ≤ S 11 0 15 ∧ S 11 0 15 ≤ 1000000) ∧ (-1 ≤ S 11 0 18 ∧ S 11 0 18 < 10) ∧ 0 ≤ S 11 0 19 ∧ S 11 0 19 ≤ 120
def mI (S : St) : Prop := mN S ∧ mR S ∧ mO S ∧ mB S ∧ mP S
def thr (S : St) (p : Int) : St := up3 S 11 0 25 p
theorem thr_thr (S : St) (p q : Int) : thr (thr S p) q = thr S q := by
  funext a b c
  unfold thr up3
  by_cases h : a = 11 ∧ b = 0 ∧ c = 25
  · simp only [if_pos h]
  · simp only [if_neg h]
theorem mI_thr {S : St} (h : mI S) (p : Int) : mI (thr S p) := h
abbrev mact (S : St) (i : Nat) : Prop := S 17 0 i = 0 ∨ S 17 0 i = 1
/-- lots of the clients that are with z -/
def lotM (S : St) (z : Int) (m : Nat) : Int := smN (fun k => if S 21 0 k = z then S 22 0 k else 0) m
def nC (S : St) : Nat := (S 11 0 14).toNat
def nM (S : St) : Nat := (S 11 0 9).toNat
def romM (S : St) (i : Nat) : Int := S 14 0 i - lotM S i (nC S)
theorem lotM_rng {S : St} (hO : mO S) (z : Int) : ∀ m, m ≤ 1000 → 0 ≤ lotM S z m ∧ lotM S z m ≤ m * 20 := fun m hm =>
  smN_nn (fun k hk => by
    have h := (hO k (by omega)).2.1
    split <;> omega)
theorem mO_add {S : St} (hO : mO S) {n : Nat} {z v c : Int} {A B : Int} (hz : -1 ≤ z ∧ z < 10) (hv : 0 ≤ v ∧ v ≤ 20) (hc : 0 ≤ c ∧ c ≤ 1000000) : mO (up3 (up3 (up3 (up3 (up3 (thr S 0) 21 0 n z) 22 0 n v) 23 0 n c) 11 0 13 A) 11 0 14 B) := fun k hk => by
  have h := hO k hk
  have e1 : (up3 (up3 (up3 (up3 (up3 (thr S 0) 21 0 n z) 22 0 n v) 23 0 n c) 11 0 13 A) 11 0 14 B) 21 0 k = if k = n then z else S 21 0 k := by simp [up3, thr]
  have e2 : (up3 (up3 (up3 (up3 (up3 (thr S 0) 21 0 n z) 22 0 n v) 23 0 n c) 11 0 13 A) 11 0 14 B) 22 0 k = if k = n then v else S 22 0 k := by simp [up3, thr]
  have e3 : (up3 (up3 (up3 (up3 (up3 (thr S 0) 21 0 n z) 22 0 n v) 23 0 n c) 11 0 13 A) 11 0 14 B) 23 0 k = if k = n then c else S 23 0 k := by simp [up3, thr]
  rw [e1, e2, e3]
  by_cases q : k = n
  · simp only [if_pos q]; omega
  · simp only [if_neg q]; exact h
section XModel
variable {g : Gl} {S : St} {Ret : Option AV → St → Prop} {Thr : String → St → Prop}
theorem m_thrown (h : Ret (some (vI (S 11 0 25))) S) : Cn g yX4_thrown cX4_thrown 1 (some .int) 0 0 0 [vR 11 0] S Ret Thr := by
  refine enter (L := [some (vR 11 0)]) (by decide +kernel) (Nat.le_of_ble_eq_true rfl) rfl (fun K MM => ?_)
  have M := MM.mk
  refine r_aload_n M dX4_thrown_0 rfl ?_
  refine r_getI M dX4_thrown_1 fk_X4_65 (by decide) rfl ?_
  refine r_iret MM dX4_thrown_4 ?_
  exact h
theorem m_fails {p : Int} (h : Ret (some (vI 0)) (thr S p)) : Cn g yX4_fails cX4_fails 2 (some .int) 0 0 0 [vR 11 0, vI p] S Ret Thr := by
  refine enter (L := [some (vR 11 0), some (vI p)]) (by decide +kernel) (Nat.le_of_ble_eq_true rfl) rfl (fun K MM => ?_)
  have M := MM.mk
  refine r_aload_n M dX4_fails_0 rfl ?_
  refine r_iload_n M dX4_fails_1 rfl ?_
  refine r_putI M dX4_fails_2 pk_X4_65 (by decide) ?_
  refine r_iconst M dX4_fails_5 ?_
  refine r_iret MM dX4_fails_6 ?_
  exact h
theorem m_in {v a b : Int} (hv : -2147483648 ≤ v ∧ v ≤ 2147483647) (ha : -2147483648 ≤ a ∧ a ≤ 2147483647) (hb : -2147483648 ≤ b ∧ b ≤ 2147483647) (h1 : a ≤ v ∧ v ≤ b → Ret (some (vI 1)) S) (h0 : ¬ (a ≤ v ∧ v ≤ b) → Ret (some (vI 0)) S) : Cn g yX4_in cX4_in 3 (some .boolean) 0 0 0 [vI v, vI a, vI b] S Ret Thr := by
  refine enter (L := [some (vI v), some (vI a), some (vI b)]) (by decide +kernel) (Nat.le_of_ble_eq_true rfl) rfl (fun K MM => ?_)
  have M := MM.mk
  refine r_iload_n M dX4_in_0 rfl ?_
  refine r_iload_n M dX4_in_1 rfl ?_
  refine r_icmp_lt M dX4_in_2 (tgt := 14) rfl (by omega) (fun b2 => ?_) (fun b2 => ?_)
  · refine r_iconst M dX4_in_14 ?_
    refine r_zret MM dX4_in_15 (by omega) ?_
    first | (exact h1 (by omega)) | (exact h0 (by omega))
  refine r_iload_n M dX4_in_5 rfl ?_
  refine r_iload_n M dX4_in_6 rfl ?_
  refine r_icmp_gt M dX4_in_7 (tgt := 14) rfl (by omega) (fun b7 => ?_) (fun b7 => ?_)
  · refine r_iconst M dX4_in_14 ?_
    refine r_zret MM dX4_in_15 (by omega) ?_
    first | (exact h1 (by omega)) | (exact h0 (by omega))
  refine r_iconst M dX4_in_10 ?_
  refine r_goto M dX4_in_11 (tgt := 15) rfl ?_
  refine r_zret MM dX4_in_15 (by omega) ?_
  first | (exact h1 (by omega)) | (exact h0 (by omega))
theorem m_isMember {z c : Int} (ec : S 11 0 9 = c) (hz : -2147483648 ≤ z ∧ z ≤ 2147483647) (hm : 0 ≤ c ∧ c ≤ 10) (h1 : ∀ j : Nat, z = j → j < 10 → (j : Int) < c → Ret (some (vI 1)) S) (h0 : ¬ (0 ≤ z ∧ z < c) → Ret (some (vI 0)) S) : Cn g yX4_isMember cX4_isMember 2 (some .boolean) 1 22 0 [vR 11 0, vI z] S Ret Thr := by
  subst ec
  refine enter (L := [some (vR 11 0), some (vI z)]) (by decide +kernel) (Nat.le_of_ble_eq_true rfl) rfl (fun K MM => ?_)
  have M := MM.mk
  refine r_iload_n M dX4_isMember_0 rfl ?_
  refine r_iconst M dX4_isMember_1 ?_
  refine r_aload_n M dX4_isMember_2 rfl ?_
  refine r_getI M dX4_isMember_3 fk_X4_68 (by decide) rfl ?_
  refine r_iconst M dX4_isMember_6 ?_
  refine r_isub M dX4_isMember_7 ?_
  refine r_callS3 MM dX4_isMember_8 sl_X4_71 st_X4_in rfl ck_X4_71 ⟨by omega, by omega, by omega⟩ (Nat.le_of_ble_eq_true rfl) (m_in hz (by omega) (by omega) (fun hq => ?_) (fun hq => ?_))
  · refine r_zret MM dX4_isMember_11 (by omega) ?_
    first | (exact h1 z.toNat (by omega) (by omega) (by omega)) | (exact h0 (by omega))
  refine r_zret MM dX4_isMember_11 (by omega) ?_
  first | (exact h1 z.toNat (by omega) (by omega) (by omega)) | (exact h0 (by omega))
theorem m_isActive {i : Nat} {z v : Int} (ez : z = i) (hi : i < 10) (hv : S 17 0 i = v) (hr : -2147483648 ≤ v ∧ v ≤ 2147483647) (h1 : v = 0 ∨ v = 1 → Ret (some (vI 1)) S) (h0 : ¬ (v = 0 ∨ v = 1) → Ret (some (vI 0)) S) : Cn g yX4_isActive cX4_isActive 2 (some .boolean) 0 0 0 [vR 11 0, vI z] S Ret Thr := by
  subst ez
  subst hv
  refine enter (L := [some (vR 11 0), some (vI (i : Int))]) (by decide +kernel) (Nat.le_of_ble_eq_true rfl) rfl (fun K MM => ?_)
  have M := MM.mk
  refine r_aload_n M dX4_isActive_0 rfl ?_
  refine r_getR M dX4_isActive_1 fk_X4_25 (by decide) rfl ?_
  refine r_iload_n M dX4_isActive_4 rfl ?_
  refine r_iald M (_) dX4_isActive_5 ⟨rfl, by decide⟩ (by decide) rfl (show (_ : Nat) < 10 by omega) (Nat.le_of_ble_eq_true rfl) ?_
  refine r_if_eq M dX4_isActive_6 (tgt := 19) rfl (by omega) (fun b6 => ?_) (fun b6 => ?_)
  · refine r_iconst M dX4_isActive_19 ?_
    refine r_goto M dX4_isActive_20 (tgt := 24) rfl ?_
    refine r_zret MM dX4_isActive_24 (by omega) ?_
    first | (exact h1 (by omega)) | (exact h0 (by omega))
  refine r_aload_n M dX4_isActive_9 rfl ?_
  refine r_getR M dX4_isActive_10 fk_X4_25 (by decide) rfl ?_
  refine r_iload_n M dX4_isActive_13 rfl ?_
  refine r_iald M (_) dX4_isActive_14 ⟨rfl, by decide⟩ (by decide) rfl (show (_ : Nat) < 10 by omega) (Nat.le_of_ble_eq_true rfl) ?_
  refine r_iconst M dX4_isActive_15 ?_
  refine r_icmp_ne M dX4_isActive_16 (tgt := 23) rfl (by omega) (fun b16 => ?_) (fun b16 => ?_)
  · refine r_iconst M dX4_isActive_23 ?_
    refine r_zret MM dX4_isActive_24 (by omega) ?_
    first | (exact h1 (by omega)) | (exact h0 (by omega))
  refine r_iconst M dX4_isActive_19 ?_
  refine r_goto M dX4_isActive_20 (tgt := 24) rfl ?_
  refine r_zret MM dX4_isActive_24 (by omega) ?_
  first | (exact h1 (by omega)) | (exact h0 (by omega))
theorem m_lotsWith {z : Int} (hz : -2147483648 ≤ z ∧ z ≤ 2147483647) (hc : 0 ≤ S 11 0 14 ∧ S 11 0 14 ≤ 1000) (hO : mO S) (h : Ret (some (vI (lotM S z (nC S)))) S) : Cn g yX4_lotsWith cX4_lotsWith 4 (some .int) 0 0 0 [vR 11 0, vI z] S Ret Thr := by
  refine enter (L := [some (vR 11 0), some (vI z), none, none]) (by decide +kernel) (Nat.le_of_ble_eq_true rfl) rfl (fun K MM => ?_)
  have M := MM.mk
  have hce : ((nC S : Nat) : Int) = S 11 0 14 := by unfold nC; omega
  refine r_iconst M dX4_lotsWith_0 ?_
  refine r_istore_2 M dX4_lotsWith_1 (by decide) rfl ?_
  refine r_iconst M dX4_lotsWith_2 ?_
  refine r_istore_3 M dX4_lotsWith_3 (by decide) rfl ?_
  refine fz (P := fun l => K 0 4 [some (vR 11 0), some (vI z), some (vI (lotM S z l)), some (vI (l : Int))] [] S) (m := nC S) ?_ ?_
  · refine r_iload_n M dX4_lotsWith_4 rfl ?_
    refine r_aload_n M dX4_lotsWith_5 rfl ?_
    refine r_getI M dX4_lotsWith_6 fk_X4_80 (by decide) rfl ?_
    refine r_icmp_ge M dX4_lotsWith_9 (tgt := 41) rfl (by omega) (fun b9 => ?_) (fun b9 => by omega)
    refine r_iload_n M dX4_lotsWith_41 rfl ?_
    refine r_iret MM dX4_lotsWith_42 ?_
    exact h
  · intro l hl hP
    have ho := hO l (by omega)
    have e : lotM S z (l + 1) = lotM S z l + (if S 21 0 l = z then S 22 0 l else 0) := rfl
    rw [e] at hP
    refine r_iload_n M dX4_lotsWith_4 rfl ?_
    refine r_aload_n M dX4_lotsWith_5 rfl ?_
    refine r_getI M dX4_lotsWith_6 fk_X4_80 (by decide) rfl ?_
    refine r_icmp_ge M dX4_lotsWith_9 (tgt := 41) rfl (by omega) (fun b9 => by omega) (fun b9 => ?_)
    refine r_iload_n M dX4_lotsWith_12 rfl ?_
    refine r_aload_n M dX4_lotsWith_13 rfl ?_
    refine r_getR M dX4_lotsWith_14 fk_X4_37 (by decide) rfl ?_
    refine r_iload_n M dX4_lotsWith_17 rfl ?_
    refine r_iald M (_) dX4_lotsWith_18 ⟨rfl, by decide⟩ (by decide) rfl (show (_ : Nat) < 1000 by omega) (Nat.le_of_ble_eq_true rfl) ?_
    refine r_iload_n M dX4_lotsWith_19 rfl ?_
    refine r_icmp_ne M dX4_lotsWith_20 (tgt := 32) rfl (by omega) (fun b20 => ?_) (fun b20 => ?_)
    · refine r_iconst M dX4_lotsWith_32 ?_
      refine r_iadd M dX4_lotsWith_33 ?_
      refine r_istore_2 M dX4_lotsWith_34 (by decide) rfl ?_
      refine r_iinc_3 M (_) dX4_lotsWith_35 rfl (by decide) rfl ?_
      refine r_goto M dX4_lotsWith_38 (tgt := 4) rfl ?_
      first | (rw [if_pos b20] at hP; exact hP) | (rw [if_neg b20] at hP; exact hP)
    refine r_aload_n M dX4_lotsWith_23 rfl ?_
    refine r_getR M dX4_lotsWith_24 fk_X4_40 (by decide) rfl ?_
    refine r_iload_n M dX4_lotsWith_27 rfl ?_
    refine r_iald M (_) dX4_lotsWith_28 ⟨rfl, by decide⟩ (by decide) rfl (show (_ : Nat) < 1000 by omega) (Nat.le_of_ble_eq_true rfl) ?_
    refine r_goto M dX4_lotsWith_29 (tgt := 33) rfl ?_
    refine r_iadd M dX4_lotsWith_33 ?_
    refine r_istore_2 M dX4_lotsWith_34 (by decide) rfl ?_
    refine r_iinc_3 M (_) dX4_lotsWith_35 rfl (by decide) rfl ?_
    refine r_goto M dX4_lotsWith_38 (tgt := 4) rfl ?_
    first | (rw [if_pos b20] at hP; exact hP) | (rw [if_neg b20] at hP; exact hP)
theorem m_roomOf {i : Nat} {z : Int} (ez : z = i) (hi : i < 10) (hc : 0 ≤ S 11 0 14 ∧ S 11 0 14 ≤ 1000) (hO : mO S) (h : Ret (some (vI (romM S i))) S) : Cn g yX4_roomOf cX4_roomOf 2 (some .int) 1 23 0 [vR 11 0, vI z] S Ret Thr := by
  subst ez
  refine enter (L := [some (vR 11 0), some (vI (i : Int))]) (by decide +kernel) (Nat.le_of_ble_eq_true rfl) rfl (fun K MM => ?_)
  have M := MM.mk
  refine r_aload_n M dX4_roomOf_0 rfl ?_
  refine r_getR M dX4_roomOf_1 fk_X4_16 (by decide) rfl ?_
  refine r_iload_n M dX4_roomOf_4 rfl ?_
  refine r_iald M (_) dX4_roomOf_5 ⟨rfl, by decide⟩ (by decide) rfl (show (_ : Nat) < 10 by omega) (Nat.le_of_ble_eq_true rfl) ?_
  refine r_aload_n M dX4_roomOf_6 rfl ?_
  refine r_iload_n M dX4_roomOf_7 rfl ?_
  refine r_callV1 MM dX4_roomOf_8 ck_X4_83 vk_X4_lotsWith ⟨by omega, by omega, by omega⟩ ⟨by decide, by decide, rfl⟩ (by decide) (Nat.le_of_ble_eq_true rfl) (m_lotsWith (by omega) hc hO ?_)
  refine r_isub M dX4_roomOf_11 ?_
  refine r_iret MM dX4_roomOf_12 ?_
  exact h
theorem m_members (h : Ret (some (vI (S 11 0 9))) (thr S 0)) : Cn g yX4_members cX4_members 1 (some .int) 0 0 0 [vR 11 0] S Ret Thr := by
  refine enter (L := [some (vR 11 0)]) (by decide +kernel) (Nat.le_of_ble_eq_true rfl) rfl (fun K MM => ?_)
  have M := MM.mk
  refine r_aload_n M dX4_members_0 rfl ?_
  refine r_iconst M dX4_members_1 ?_
  refine r_putI M dX4_members_2 pk_X4_65 (by decide) ?_
  refine r_aload_n M dX4_members_5 rfl ?_
  refine r_getI M dX4_members_6 fk_X4_68 (by decide) rfl ?_
  refine r_iret MM dX4_members_9 ?_
  exact h
theorem m_capital (h : Ret (some (vI (S 11 0 15))) (thr S 0)) : Cn g yX4_capital cX4_capital 1 (some .int) 0 0 0 [vR 11 0] S Ret Thr := by
  refine enter (L := [some (vR 11 0)]) (by decide +kernel) (Nat.le_of_ble_eq_true rfl) rfl (fun K MM => ?_)
  have M := MM.mk
  refine r_aload_n M dX4_capital_0 rfl ?_
  refine r_iconst M dX4_capital_1 ?_
  refine r_putI M dX4_capital_2 pk_X4_65 (by decide) ?_
  refine r_aload_n M dX4_capital_5 rfl ?_
  refine r_getI M dX4_capital_6 fk_X4_99 (by decide) rfl ?_
  refine r_iret MM dX4_capital_9 ?_
  exact h
theorem m_loss (h : Ret (some (vI (S 11 0 16))) (thr S 0)) : Cn g yX4_loss cX4_loss 1 (some .int) 0 0 0 [vR 11 0] S Ret Thr := by
  refine enter (L := [some (vR 11 0)]) (by decide +kernel) (Nat.le_of_ble_eq_true rfl) rfl (fun K MM => ?_)
  have M := MM.mk
  refine r_aload_n M dX4_loss_0 rfl ?_
  refine r_iconst M dX4_loss_1 ?_
  refine r_putI M dX4_loss_2 pk_X4_65 (by decide) ?_
  refine r_aload_n M dX4_loss_5 rfl ?_
  refine r_getI M dX4_loss_6 fk_X4_123 (by decide) rfl ?_
  refine r_iret MM dX4_loss_9 ?_
  exact h
theorem m_uncovered (h : Ret (some (vI (S 11 0 17))) (thr S 0)) : Cn g yX4_uncovered cX4_uncovered 1 (some .int) 0 0 0 [vR 11 0] S Ret Thr := by
  refine enter (L := [some (vR 11 0)]) (by decide +kernel) (Nat.le_of_ble_eq_true rfl) rfl (fun K MM => ?_)
  have M := MM.mk
  refine r_aload_n M dX4_uncovered_0 rfl ?_
  refine r_iconst M dX4_uncovered_1 ?_
  refine r_putI M dX4_uncovered_2 pk_X4_65 (by decide) ?_
  refine r_aload_n M dX4_uncovered_5 rfl ?_
  refine r_getI M dX4_uncovered_6 fk_X4_136 (by decide) rfl ?_
  refine r_iret MM dX4_uncovered_9 ?_
  exact h
theorem m_failing (h : Ret (some (vI (S 11 0 18))) (thr S 0)) : Cn g yX4_failing cX4_failing 1 (some .int) 0 0 0 [vR 11 0] S Ret Thr := by
  refine enter (L := [some (vR 11 0)]) (by decide +kernel) (Nat.le_of_ble_eq_true rfl) rfl (fun K MM => ?_)
  have M := MM.mk
  refine r_aload_n M dX4_failing_0 rfl ?_
  refine r_iconst M dX4_failing_1 ?_
  refine r_putI M dX4_failing_2 pk_X4_65 (by decide) ?_
  refine r_aload_n M dX4_failing_5 rfl ?_
  refine r_getI M dX4_failing_6 fk_X4_46 (by decide) rfl ?_
  refine r_iret MM dX4_failing_9 ?_
  exact h
theorem m_state {z : Int} (hz : -2147483648 ≤ z ∧ z ≤ 2147483647) (hI : mI S) (hok : ∀ j : Nat, z = j → j < 10 → (j : Int) < S 11 0 9 → Ret (some (vI (S 17 0 j))) (thr S 0)) (hbad : ¬ (0 ≤ z ∧ z < S 11 0 9) → Ret (some (vI 0)) (thr S 1)) : Cn g yX4_state cX4_state 2 (some .int) 2 43 0 [vR 11 0, vI z] S Ret Thr := by
  refine enter (L := [some (vR 11 0), some (vI z)]) (by decide +kernel) (Nat.le_of_ble_eq_true rfl) rfl (fun K MM => ?_)
  have M := MM.mk
  refine r_aload_n M dX4_state_0 rfl ?_
  refine r_iconst M dX4_state_1 ?_
  refine r_putI M dX4_state_2 pk_X4_65 (by decide) ?_
  refine r_aload_n M dX4_state_5 rfl ?_
  refine r_iload_n M dX4_state_6 rfl ?_
  refine r_callV1 MM dX4_state_7 ck_X4_86 vk_X4_isMember ⟨by omega, by omega, by omega⟩ ⟨by decide, by decide, rfl⟩ (by decide) (Nat.le_of_ble_eq_true rfl) (m_isMember (c := S 11 0 9) rfl hz hI.1.1 (fun j ej hj hjc => ?_) (fun hb => ?_))
  · refine r_if_eq M dX4_state_10 (tgt := 22) rfl (by omega) (fun b10 => by omega) (fun b10 => ?_)
    refine r_aload_n M dX4_state_13 rfl ?_
    refine r_getR M dX4_state_14 fk_X4_25 (by decide) rfl ?_
    refine r_iload_n M dX4_state_17 rfl ?_
    refine r_iald M (j) dX4_state_18 ⟨rfl, by decide⟩ (by decide) (by omega) (show (_ : Nat) < 10 by omega) (Nat.le_of_ble_eq_true rfl) ?_
    refine r_goto M dX4_state_19 (tgt := 27) rfl ?_
    refine r_iret MM dX4_state_27 ?_
    first | exact hok j ej hj hjc | exact ret_S (hbad hb) (thr_thr S 0 1)
  refine r_if_eq M dX4_state_10 (tgt := 22) rfl (by omega) (fun b10 => ?_) (fun b10 => by omega)
  refine r_aload_n M dX4_state_22 rfl ?_
  refine r_iconst M dX4_state_23 ?_
  refine r_callV1 MM dX4_state_24 ck_X4_76 vk_X4_fails ⟨by omega, by omega, by omega⟩ ⟨by decide, by decide, rfl⟩ (by decide) (Nat.le_of_ble_eq_true rfl) (m_fails ?_)
  refine r_iret MM dX4_state_27 ?_
  first | exact hok j ej hj hjc | exact ret_S (hbad hb) (thr_thr S 0 1)
theorem m_margin {z : Int} (hz : -2147483648 ≤ z ∧ z ≤ 2147483647) (hI : mI S) (hok : ∀ j : Nat, z = j → j < 10 → (j : Int) < S 11 0 9 → Ret (some (vI (S 12 0 j))) (thr S 0)) (hbad : ¬ (0 ≤ z ∧ z < S 11 0 9) → Ret (some (vI 0)) (thr S 1)) : Cn g yX4_margin cX4_margin 2 (some .int) 2 43 0 [vR 11 0, vI z] S Ret Thr := by
  refine enter (L := [some (vR 11 0), some (vI z)]) (by decide +kernel) (Nat.le_of_ble_eq_true rfl) rfl (fun K MM => ?_)
  have M := MM.mk
  refine r_aload_n M dX4_margin_0 rfl ?_
  refine r_iconst M dX4_margin_1 ?_
  refine r_putI M dX4_margin_2 pk_X4_65 (by decide) ?_
  refine r_aload_n M dX4_margin_5 rfl ?_
  refine r_iload_n M dX4_margin_6 rfl ?_
  refine r_callV1 MM dX4_margin_7 ck_X4_86 vk_X4_isMember ⟨by omega, by omega, by omega⟩ ⟨by decide, by decide, rfl⟩ (by decide) (Nat.le_of_ble_eq_true rfl) (m_isMember (c := S 11 0 9) rfl hz hI.1.1 (fun j ej hj hjc => ?_) (fun hb => ?_))
  · refine r_if_eq M dX4_margin_10 (tgt := 22) rfl (by omega) (fun b10 => by omega) (fun b10 => ?_)
    refine r_aload_n M dX4_margin_13 rfl ?_
    refine r_getR M dX4_margin_14 fk_X4_7 (by decide) rfl ?_
    refine r_iload_n M dX4_margin_17 rfl ?_
    refine r_iald M (j) dX4_margin_18 ⟨rfl, by decide⟩ (by decide) (by omega) (show (_ : Nat) < 10 by omega) (Nat.le_of_ble_eq_true rfl) ?_
    refine r_goto M dX4_margin_19 (tgt := 27) rfl ?_
    refine r_iret MM dX4_margin_27 ?_
    first | exact hok j ej hj hjc | exact ret_S (hbad hb) (thr_thr S 0 1)
  refine r_if_eq M dX4_margin_10 (tgt := 22) rfl (by omega) (fun b10 => ?_) (fun b10 => by omega)
  refine r_aload_n M dX4_margin_22 rfl ?_
  refine r_iconst M dX4_margin_23 ?_
  refine r_callV1 MM dX4_margin_24 ck_X4_76 vk_X4_fails ⟨by omega, by omega, by omega⟩ ⟨by decide, by decide, rfl⟩ (by decide) (Nat.le_of_ble_eq_true rfl) (m_fails ?_)
  refine r_iret MM dX4_margin_27 ?_
  first | exact hok j ej hj hjc | exact ret_S (hbad hb) (thr_thr S 0 1)
theorem m_share {z : Int} (hz : -2147483648 ≤ z ∧ z ≤ 2147483647) (hI : mI S) (hok : ∀ j : Nat, z = j → j < 10 → (j : Int) < S 11 0 9 → Ret (some (vI (S 13 0 j))) (thr S 0)) (hbad : ¬ (0 ≤ z ∧ z < S 11 0 9) → Ret (some (vI 0)) (thr S 1)) : Cn g yX4_share cX4_share 2 (some .int) 2 43 0 [vR 11 0, vI z] S Ret Thr := by
  refine enter (L := [some (vR 11 0), some (vI z)]) (by decide +kernel) (Nat.le_of_ble_eq_true rfl) rfl (fun K MM => ?_)
  have M := MM.mk
  refine r_aload_n M dX4_share_0 rfl ?_
  refine r_iconst M dX4_share_1 ?_
  refine r_putI M dX4_share_2 pk_X4_65 (by decide) ?_
  refine r_aload_n M dX4_share_5 rfl ?_
  refine r_iload_n M dX4_share_6 rfl ?_
  refine r_callV1 MM dX4_share_7 ck_X4_86 vk_X4_isMember ⟨by omega, by omega, by omega⟩ ⟨by decide, by decide, rfl⟩ (by decide) (Nat.le_of_ble_eq_true rfl) (m_isMember (c := S 11 0 9) rfl hz hI.1.1 (fun j ej hj hjc => ?_) (fun hb => ?_))
  · refine r_if_eq M dX4_share_10 (tgt := 22) rfl (by omega) (fun b10 => by omega) (fun b10 => ?_)
    refine r_aload_n M dX4_share_13 rfl ?_
    refine r_getR M dX4_share_14 fk_X4_13 (by decide) rfl ?_
    refine r_iload_n M dX4_share_17 rfl ?_
    refine r_iald M (j) dX4_share_18 ⟨rfl, by decide⟩ (by decide) (by omega) (show (_ : Nat) < 10 by omega) (Nat.le_of_ble_eq_true rfl) ?_
    refine r_goto M dX4_share_19 (tgt := 27) rfl ?_
    refine r_iret MM dX4_share_27 ?_
    first | exact hok j ej hj hjc | exact ret_S (hbad hb) (thr_thr S 0 1)
  refine r_if_eq M dX4_share_10 (tgt := 22) rfl (by omega) (fun b10 => ?_) (fun b10 => by omega)
  refine r_aload_n M dX4_share_22 rfl ?_
  refine r_iconst M dX4_share_23 ?_
  refine r_callV1 MM dX4_share_24 ck_X4_76 vk_X4_fails ⟨by omega, by omega, by omega⟩ ⟨by decide, by decide, rfl⟩ (by decide) (Nat.le_of_ble_eq_true rfl) (m_fails ?_)
  refine r_iret MM dX4_share_27 ?_
  first | exact hok j ej hj hjc | exact ret_S (hbad hb) (thr_thr S 0 1)
theorem m_gain {z : Int} (hz : -2147483648 ≤ z ∧ z ≤ 2147483647) (hI : mI S) (hok : ∀ j : Nat, z = j → j < 10 → (j : Int) < S 11 0 9 → Ret (some (vI (S 15 0 j))) (thr S 0)) (hbad : ¬ (0 ≤ z ∧ z < S 11 0 9) → Ret (some (vI 0)) (thr S 1)) : Cn g yX4_gain cX4_gain 2 (some .int) 2 43 0 [vR 11 0, vI z] S Ret Thr := by
  refine enter (L := [some (vR 11 0), some (vI z)]) (by decide +kernel) (Nat.le_of_ble_eq_true rfl) rfl (fun K MM => ?_)
  have M := MM.mk
  refine r_aload_n M dX4_gain_0 rfl ?_
  refine r_iconst M dX4_gain_1 ?_
  refine r_putI M dX4_gain_2 pk_X4_65 (by decide) ?_
  refine r_aload_n M dX4_gain_5 rfl ?_
  refine r_iload_n M dX4_gain_6 rfl ?_
  refine r_callV1 MM dX4_gain_7 ck_X4_86 vk_X4_isMember ⟨by omega, by omega, by omega⟩ ⟨by decide, by decide, rfl⟩ (by decide) (Nat.le_of_ble_eq_true rfl) (m_isMember (c := S 11 0 9) rfl hz hI.1.1 (fun j ej hj hjc => ?_) (fun hb => ?_))
  · refine r_if_eq M dX4_gain_10 (tgt := 22) rfl (by omega) (fun b10 => by omega) (fun b10 => ?_)
    refine r_aload_n M dX4_gain_13 rfl ?_
    refine r_getR M dX4_gain_14 fk_X4_19 (by decide) rfl ?_
    refine r_iload_n M dX4_gain_17 rfl ?_
    refine r_iald M (j) dX4_gain_18 ⟨rfl, by decide⟩ (by decide) (by omega) (show (_ : Nat) < 10 by omega) (Nat.le_of_ble_eq_true rfl) ?_
    refine r_goto M dX4_gain_19 (tgt := 27) rfl ?_
    refine r_iret MM dX4_gain_27 ?_
    first | exact hok j ej hj hjc | exact ret_S (hbad hb) (thr_thr S 0 1)
  refine r_if_eq M dX4_gain_10 (tgt := 22) rfl (by omega) (fun b10 => ?_) (fun b10 => by omega)
  refine r_aload_n M dX4_gain_22 rfl ?_
  refine r_iconst M dX4_gain_23 ?_
  refine r_callV1 MM dX4_gain_24 ck_X4_76 vk_X4_fails ⟨by omega, by omega, by omega⟩ ⟨by decide, by decide, rfl⟩ (by decide) (Nat.le_of_ble_eq_true rfl) (m_fails ?_)
  refine r_iret MM dX4_gain_27 ?_
  first | exact hok j ej hj hjc | exact ret_S (hbad hb) (thr_thr S 0 1)
theorem m_assessed {z : Int} (hz : -2147483648 ≤ z ∧ z ≤ 2147483647) (hI : mI S) (hok : ∀ j : Nat, z = j → j < 10 → (j : Int) < S 11 0 9 → Ret (some (vI (S 19 0 j))) (thr S 0)) (hbad : ¬ (0 ≤ z ∧ z < S 11 0 9) → Ret (some (vI 0)) (thr S 1)) : Cn g yX4_assessed cX4_assessed 2 (some .int) 2 43 0 [vR 11 0, vI z] S Ret Thr := by
  refine enter (L := [some (vR 11 0), some (vI z)]) (by decide +kernel) (Nat.le_of_ble_eq_true rfl) rfl (fun K MM => ?_)
  have M := MM.mk
  refine r_aload_n M dX4_assessed_0 rfl ?_
  refine r_iconst M dX4_assessed_1 ?_
  refine r_putI M dX4_assessed_2 pk_X4_65 (by decide) ?_
  refine r_aload_n M dX4_assessed_5 rfl ?_
  refine r_iload_n M dX4_assessed_6 rfl ?_
  refine r_callV1 MM dX4_assessed_7 ck_X4_86 vk_X4_isMember ⟨by omega, by omega, by omega⟩ ⟨by decide, by decide, rfl⟩ (by decide) (Nat.le_of_ble_eq_true rfl) (m_isMember (c := S 11 0 9) rfl hz hI.1.1 (fun j ej hj hjc => ?_) (fun hb => ?_))
  · refine r_if_eq M dX4_assessed_10 (tgt := 22) rfl (by omega) (fun b10 => by omega) (fun b10 => ?_)
    refine r_aload_n M dX4_assessed_13 rfl ?_
    refine r_getR M dX4_assessed_14 fk_X4_31 (by decide) rfl ?_
    refine r_iload_n M dX4_assessed_17 rfl ?_
    refine r_iald M (j) dX4_assessed_18 ⟨rfl, by decide⟩ (by decide) (by omega) (show (_ : Nat) < 10 by omega) (Nat.le_of_ble_eq_true rfl) ?_
    refine r_goto M dX4_assessed_19 (tgt := 27) rfl ?_
    refine r_iret MM dX4_assessed_27 ?_
    first | exact hok j ej hj hjc | exact ret_S (hbad hb) (thr_thr S 0 1)
  refine r_if_eq M dX4_assessed_10 (tgt := 22) rfl (by omega) (fun b10 => ?_) (fun b10 => by omega)
  refine r_aload_n M dX4_assessed_22 rfl ?_
  refine r_iconst M dX4_assessed_23 ?_
  refine r_callV1 MM dX4_assessed_24 ck_X4_76 vk_X4_fails ⟨by omega, by omega, by omega⟩ ⟨by decide, by decide, rfl⟩ (by decide) (Nat.le_of_ble_eq_true rfl) (m_fails ?_)
  refine r_iret MM dX4_assessed_27 ?_
  first | exact hok j ej hj hjc | exact ret_S (hbad hb) (thr_thr S 0 1)
theorem m_won {z : Int} (hz : -2147483648 ≤ z ∧ z ≤ 2147483647) (hI : mI S) (hok : ∀ j : Nat, z = j → j < 10 → (j : Int) < S 11 0 9 → Ret (some (vI (S 20 0 j))) (thr S 0)) (hbad : ¬ (0 ≤ z ∧ z < S 11 0 9) → Ret (some (vI 0)) (thr S 1)) : Cn g yX4_won cX4_won 2 (some .int) 2 43 0 [vR 11 0, vI z] S Ret Thr := by
  refine enter (L := [some (vR 11 0), some (vI z)]) (by decide +kernel) (Nat.le_of_ble_eq_true rfl) rfl (fun K MM => ?_)
  have M := MM.mk
  refine r_aload_n M dX4_won_0 rfl ?_
  refine r_iconst M dX4_won_1 ?_
  refine r_putI M dX4_won_2 pk_X4_65 (by decide) ?_
  refine r_aload_n M dX4_won_5 rfl ?_
  refine r_iload_n M dX4_won_6 rfl ?_
  refine r_callV1 MM dX4_won_7 ck_X4_86 vk_X4_isMember ⟨by omega, by omega, by omega⟩ ⟨by decide, by decide, rfl⟩ (by decide) (Nat.le_of_ble_eq_true rfl) (m_isMember (c := S 11 0 9) rfl hz hI.1.1 (fun j ej hj hjc => ?_) (fun hb => ?_))
  · refine r_if_eq M dX4_won_10 (tgt := 22) rfl (by omega) (fun b10 => by omega) (fun b10 => ?_)
    refine r_aload_n M dX4_won_13 rfl ?_
    refine r_getR M dX4_won_14 fk_X4_34 (by decide) rfl ?_
    refine r_iload_n M dX4_won_17 rfl ?_
    refine r_iald M (j) dX4_won_18 ⟨rfl, by decide⟩ (by decide) (by omega) (show (_ : Nat) < 10 by omega) (Nat.le_of_ble_eq_true rfl) ?_
    refine r_goto M dX4_won_19 (tgt := 27) rfl ?_
    refine r_iret MM dX4_won_27 ?_
    first | exact hok j ej hj hjc | exact ret_S (hbad hb) (thr_thr S 0 1)
  refine r_if_eq M dX4_won_10 (tgt := 22) rfl (by omega) (fun b10 => ?_) (fun b10 => by omega)
  refine r_aload_n M dX4_won_22 rfl ?_
  refine r_iconst M dX4_won_23 ?_
  refine r_callV1 MM dX4_won_24 ck_X4_76 vk_X4_fails ⟨by omega, by omega, by omega⟩ ⟨by decide, by decide, rfl⟩ (by decide) (Nat.le_of_ble_eq_true rfl) (m_fails ?_)
  refine r_iret MM dX4_won_27 ?_
  first | exact hok j ej hj hjc | exact ret_S (hbad hb) (thr_thr S 0 1)
theorem m_isJunior {z : Int} (hz : -2147483648 ≤ z ∧ z ≤ 2147483647) (hI : mI S) (hok : ∀ j : Nat, z = j → j < 10 → (j : Int) < S 11 0 9 → Ret (some (vI (if S 18 0 j = 1 then 1 else 0))) (thr S 0)) (hbad : ¬ (0 ≤ z ∧ z < S 11 0 9) → Ret (some (vI 0)) (thr S 1)) : Cn g yX4_isJunior cX4_isJunior 2 (some .boolean) 2 43 0 [vR 11 0, vI z] S Ret Thr := by
  refine enter (L := [some (vR 11 0), some (vI z)]) (by decide +kernel) (Nat.le_of_ble_eq_true rfl) rfl (fun K MM => ?_)
  have M := MM.mk
  refine r_aload_n M dX4_isJunior_0 rfl ?_
  refine r_iconst M dX4_isJunior_1 ?_
  refine r_putI M dX4_isJunior_2 pk_X4_65 (by decide) ?_
  refine r_aload_n M dX4_isJunior_5 rfl ?_
  refine r_iload_n M dX4_isJunior_6 rfl ?_
  refine r_callV1 MM dX4_isJunior_7 ck_X4_86 vk_X4_isMember ⟨by omega, by omega, by omega⟩ ⟨by decide, by decide, rfl⟩ (by decide) (Nat.le_of_ble_eq_true rfl) (m_isMember (c := S 11 0 9) rfl hz hI.1.1 (fun j ej hj hjc => ?_) (fun hb => ?_))
  · refine r_if_ne M dX4_isJunior_10 (tgt := 21) rfl (by omega) (fun b10 => ?_) (fun b10 => by omega)
    refine r_aload_n M dX4_isJunior_21 rfl ?_
    refine r_getR M dX4_isJunior_22 fk_X4_28 (by decide) rfl ?_
    refine r_iload_n M dX4_isJunior_25 rfl ?_
    refine r_ialdV M (j) dX4_isJunior_26 ⟨rfl, by decide⟩ (by decide) (by omega) (show (_ : Nat) < 10 by omega) (Nat.le_of_ble_eq_true rfl) (S 18 0 j) (by rfl) ?_
    refine r_iconst M dX4_isJunior_27 ?_
    refine r_icmp_ne M dX4_isJunior_28 (tgt := 35) rfl (by have h9 := (hI.2.1 j hj).2.2.2.2.2.2.1; have h8 : thr S 0 18 0 j = S 18 0 j := rfl; omega) (fun b28 => ?_) (fun b28 => ?_)
    · refine r_iconst M dX4_isJunior_35 ?_
      refine r_zret MM dX4_isJunior_36 (by omega) ?_
      first | exact ret_v (hok j ej hj hjc) (by rw [if_pos b28]) | exact ret_v (hok j ej hj hjc) (by rw [if_neg b28])
    refine r_iconst M dX4_isJunior_31 ?_
    refine r_goto M dX4_isJunior_32 (tgt := 36) rfl ?_
    refine r_zret MM dX4_isJunior_36 (by omega) ?_
    first | exact ret_v (hok j ej hj hjc) (by rw [if_pos b28]) | exact ret_v (hok j ej hj hjc) (by rw [if_neg b28])
  refine r_if_ne M dX4_isJunior_10 (tgt := 21) rfl (by omega) (fun b10 => by omega) (fun b10 => ?_)
  refine r_aload_n M dX4_isJunior_13 rfl ?_
  refine r_iconst M dX4_isJunior_14 ?_
  refine r_callV1 MM dX4_isJunior_15 ck_X4_76 vk_X4_fails ⟨by omega, by omega, by omega⟩ ⟨by decide, by decide, rfl⟩ (by decide) (Nat.le_of_ble_eq_true rfl) (m_fails ?_)
  refine r_pop M dX4_isJunior_18 ?_
  refine r_iconst M dX4_isJunior_19 ?_
  refine r_zret MM dX4_isJunior_20 (by omega) ?_
  exact ret_S (hbad hb) (thr_thr S 0 1)
theorem m_clientLots {z : Int} (hz : -2147483648 ≤ z ∧ z ≤ 2147483647) (hI : mI S) (hok : ∀ j : Nat, z = j → j < 10 → (j : Int) < S 11 0 9 → Ret (some (vI (lotM S j (nC S)))) (thr S 0)) (hbad : ¬ (0 ≤ z ∧ z < S 11 0 9) → Ret (some (vI 0)) (thr S 1)) : Cn g yX4_clientLots cX4_clientLots 2 (some .int) 2 43 0 [vR 11 0, vI z] S Ret Thr := by
  refine enter (L := [some (vR 11 0), some (vI z)]) (by decide +kernel) (Nat.le_of_ble_eq_true rfl) rfl (fun K MM => ?_)
  have M := MM.mk
  have hc9 := hI.1.2.2.1
  refine r_aload_n M dX4_clientLots_0 rfl ?_
  refine r_iconst M dX4_clientLots_1 ?_
  refine r_putI M dX4_clientLots_2 pk_X4_65 (by decide) ?_
  refine r_aload_n M dX4_clientLots_5 rfl ?_
  refine r_iload_n M dX4_clientLots_6 rfl ?_
  refine r_callV1 MM dX4_clientLots_7 ck_X4_86 vk_X4_isMember ⟨by omega, by omega, by omega⟩ ⟨by decide, by decide, rfl⟩ (by decide) (Nat.le_of_ble_eq_true rfl) (m_isMember (c := S 11 0 9) rfl hz hI.1.1 (fun j ej hj hjc => ?_) (fun hb => ?_))
  · refine r_if_eq M dX4_clientLots_10 (tgt := 21) rfl (by omega) (fun b10 => by omega) (fun b10 => ?_)
    refine r_aload_n M dX4_clientLots_13 rfl ?_
    refine r_iload_n M dX4_clientLots_14 rfl ?_
    refine r_callV1 MM dX4_clientLots_15 ck_X4_83 vk_X4_lotsWith ⟨by omega, by omega, by omega⟩ ⟨by decide, by decide, rfl⟩ (by decide) (Nat.le_of_ble_eq_true rfl) (m_lotsWith hz (show 0 ≤ S 11 0 14 ∧ S 11 0 14 ≤ 1000 by omega) hI.2.2.1 ?_)
    refine r_goto M dX4_clientLots_18 (tgt := 26) rfl ?_
    refine r_iret MM dX4_clientLots_26 ?_
    first | (have h9 := hok j ej hj hjc; rw [← ej] at h9; exact h9) | exact ret_S (hbad hb) (thr_thr S 0 1)
  refine r_if_eq M dX4_clientLots_10 (tgt := 21) rfl (by omega) (fun b10 => ?_) (fun b10 => by omega)
  refine r_aload_n M dX4_clientLots_21 rfl ?_
  refine r_iconst M dX4_clientLots_22 ?_
  refine r_callV1 MM dX4_clientLots_23 ck_X4_76 vk_X4_fails ⟨by omega, by omega, by omega⟩ ⟨by decide, by decide, rfl⟩ (by decide) (Nat.le_of_ble_eq_true rfl) (m_fails ?_)
  refine r_iret MM dX4_clientLots_26 ?_
  first | (have h9 := hok j ej hj hjc; rw [← ej] at h9; exact h9) | exact ret_S (hbad hb) (thr_thr S 0 1)
theorem m_addMember {a b c : Int} (ha : -2147483648 ≤ a ∧ a ≤ 2147483647) (hb : -2147483648 ≤ b ∧ b ≤ 2147483647) (hc : -2147483648 ≤ c ∧ c ≤ 2147483647) (hI : mI S)
    (hok : ∀ j : Nat, S 11 0 9 = j → j < 10 → (0 ≤ a ∧ a ≤ 1000000) → (0 ≤ b ∧ b ≤ 1000000) → (0 ≤ c ∧ c ≤ 100) → Ret (some (vI (j : Int))) (up3 (up3 (up3 (up3 (thr S 0) 12 0 j a) 13 0 j b) 14 0 j c) 11 0 9 (j + 1 : Int)))
    (h1 : ¬ ((0 ≤ a ∧ a ≤ 1000000) ∧ (0 ≤ b ∧ b ≤ 1000000) ∧ 0 ≤ c ∧ c ≤ 100) → Ret (some (vI 0)) (thr S 1)) (h2 : (0 ≤ a ∧ a ≤ 1000000) ∧ (0 ≤ b ∧ b ≤ 1000000) ∧ (0 ≤ c ∧ c ≤ 100) → ¬ S 11 0 9 < 10 → Ret (some (vI 0)) (thr S 2)) : Cn g yX4_addMember cX4_addMember 4 (some .int) 1 22 0 [vR 11 0, vI a, vI b, vI c] S Ret Thr := by
  refine enter (L := [some (vR 11 0), some (vI a), some (vI b), some (vI c)]) (by decide +kernel) (Nat.le_of_ble_eq_true rfl) rfl (fun K MM => ?_)
  have M := MM.mk
  have hcn := hI.1.1
  have hcj : (((S 11 0 9).toNat : Nat) : Int) = S 11 0 9 := by omega
  refine r_aload_n M dX4_addMember_0 rfl ?_
  refine r_iconst M dX4_addMember_1 ?_
  refine r_putI M dX4_addMember_2 pk_X4_65 (by decide) ?_
  refine r_iload_n M dX4_addMember_5 rfl ?_
  refine r_iconst M dX4_addMember_6 ?_
  refine r_ldc M dX4_addMember_7 kc_X4_75 (z := 1000000) rfl ?_
  refine r_callS3 MM dX4_addMember_9 sl_X4_71 st_X4_in rfl ck_X4_71 ⟨by omega, by omega, by omega⟩ (Nat.le_of_ble_eq_true rfl) (m_in ha (by omega) (by omega) (fun q1 => ?_) (fun q1 => ?_))
  · refine r_if_eq M dX4_addMember_12 (tgt := 35) rfl (by omega) (fun b12 => by omega) (fun b12 => ?_)
    refine r_iload_n M dX4_addMember_15 rfl ?_
    refine r_iconst M dX4_addMember_16 ?_
    refine r_ldc M dX4_addMember_17 kc_X4_75 (z := 1000000) rfl ?_
    refine r_callS3 MM dX4_addMember_19 sl_X4_71 st_X4_in rfl ck_X4_71 ⟨by omega, by omega, by omega⟩ (Nat.le_of_ble_eq_true rfl) (m_in hb (by omega) (by omega) (fun q2 => ?_) (fun q2 => ?_))
    · refine r_if_eq M dX4_addMember_22 (tgt := 35) rfl (by omega) (fun b22 => by omega) (fun b22 => ?_)
      refine r_iload_n M dX4_addMember_25 rfl ?_
      refine r_iconst M dX4_addMember_26 ?_
      refine r_bipush M dX4_addMember_27 rfl ?_
      refine r_callS3 MM dX4_addMember_29 sl_X4_71 st_X4_in rfl ck_X4_71 ⟨by omega, by omega, by omega⟩ (Nat.le_of_ble_eq_true rfl) (m_in hc (by omega) (by omega) (fun q3 => ?_) (fun q3 => ?_))
      · refine r_if_ne M dX4_addMember_32 (tgt := 41) rfl (by omega) (fun b32 => ?_) (fun b32 => by omega)
        refine r_aload_n M dX4_addMember_41 rfl ?_
        refine r_getV M dX4_addMember_42 fk_X4_68 (by decide) rfl (S 11 0 9) (by rfl) ?_
        refine r_bipush M dX4_addMember_45 rfl ?_
        refine r_icmp_ne M dX4_addMember_47 (tgt := 56) rfl (by omega) (fun b47 => ?_) (fun b47 => ?_)
        · refine r_aload_n M dX4_addMember_56 rfl ?_
          refine r_getR M dX4_addMember_57 fk_X4_7 (by decide) rfl ?_
          refine r_aload_n M dX4_addMember_60 rfl ?_
          refine r_getV M dX4_addMember_61 fk_X4_68 (by decide) rfl (S 11 0 9) (by rfl) ?_
          refine r_iload_n M dX4_addMember_64 rfl ?_
          refine r_iast M ((S 11 0 9).toNat) dX4_addMember_65 ⟨rfl, by decide⟩ (by decide) (by omega) (show (_ : Nat) < 10 by omega) (Nat.le_of_ble_eq_true rfl) ?_
          refine r_aload_n M dX4_addMember_66 rfl ?_
          refine r_getR M dX4_addMember_67 fk_X4_13 (by decide) rfl ?_
          refine r_aload_n M dX4_addMember_70 rfl ?_
          refine r_getV M dX4_addMember_71 fk_X4_68 (by decide) rfl (S 11 0 9) (by rfl) ?_
          refine r_iload_n M dX4_addMember_74 rfl ?_
          refine r_iast M ((S 11 0 9).toNat) dX4_addMember_75 ⟨rfl, by decide⟩ (by decide) (by omega) (show (_ : Nat) < 10 by omega) (Nat.le_of_ble_eq_true rfl) ?_
          refine r_aload_n M dX4_addMember_76 rfl ?_
          refine r_getR M dX4_addMember_77 fk_X4_16 (by decide) rfl ?_
          refine r_aload_n M dX4_addMember_80 rfl ?_
          refine r_getV M dX4_addMember_81 fk_X4_68 (by decide) rfl (S 11 0 9) (by rfl) ?_
          refine r_iload_n M dX4_addMember_84 rfl ?_
          refine r_iast M ((S 11 0 9).toNat) dX4_addMember_85 ⟨rfl, by decide⟩ (by decide) (by omega) (show (_ : Nat) < 10 by omega) (Nat.le_of_ble_eq_true rfl) ?_
          refine r_aload_n M dX4_addMember_86 rfl ?_
          refine r_dupR M dX4_addMember_87 ?_
          refine r_getV M dX4_addMember_88 fk_X4_68 (by decide) rfl (S 11 0 9) (by rfl) ?_
          refine r_iconst M dX4_addMember_91 ?_
          refine r_iadd M dX4_addMember_92 ?_
          refine r_putI M dX4_addMember_93 pk_X4_68 (by decide) ?_
          refine r_aload_n M dX4_addMember_96 rfl ?_
          refine r_getV M dX4_addMember_97 fk_X4_68 (by decide) rfl (S 11 0 9 + 1) (by simp [up3]) ?_
          refine r_iconst M dX4_addMember_100 ?_
          refine r_isub M dX4_addMember_101 ?_
          refine r_iret MM dX4_addMember_102 ?_
          have h := hok (S 11 0 9).toNat (by omega) (by omega) q1 q2 q3; rw [hcj] at h; exact ret_v h (by congr 2; omega)
        refine r_aload_n M dX4_addMember_50 rfl ?_
        refine r_iconst M dX4_addMember_51 ?_
        refine r_callV1 MM dX4_addMember_52 ck_X4_76 vk_X4_fails ⟨by omega, by omega, by omega⟩ ⟨by decide, by decide, rfl⟩ (by decide) (Nat.le_of_ble_eq_true rfl) (m_fails ?_)
        refine r_iret MM dX4_addMember_55 ?_
        exact ret_S (h2 ⟨q1, q2, q3⟩ (by omega)) (thr_thr S 0 2)
      refine r_if_ne M dX4_addMember_32 (tgt := 41) rfl (by omega) (fun b32 => by omega) (fun b32 => ?_)
      refine r_aload_n M dX4_addMember_35 rfl ?_
      refine r_iconst M dX4_addMember_36 ?_
      refine r_callV1 MM dX4_addMember_37 ck_X4_76 vk_X4_fails ⟨by omega, by omega, by omega⟩ ⟨by decide, by decide, rfl⟩ (by decide) (Nat.le_of_ble_eq_true rfl) (m_fails ?_)
      refine r_iret MM dX4_addMember_40 ?_
      exact ret_S (h1 (by omega)) (thr_thr S 0 1)
    refine r_if_eq M dX4_addMember_22 (tgt := 35) rfl (by omega) (fun b22 => ?_) (fun b22 => by omega)
    refine r_aload_n M dX4_addMember_35 rfl ?_
    refine r_iconst M dX4_addMember_36 ?_
    refine r_callV1 MM dX4_addMember_37 ck_X4_76 vk_X4_fails ⟨by omega, by omega, by omega⟩ ⟨by decide, by decide, rfl⟩ (by decide) (Nat.le_of_ble_eq_true rfl) (m_fails ?_)
    refine r_iret MM dX4_addMember_40 ?_
    exact ret_S (h1 (by omega)) (thr_thr S 0 1)
  refine r_if_eq M dX4_addMember_12 (tgt := 35) rfl (by omega) (fun b12 => ?_) (fun b12 => by omega)
  refine r_aload_n M dX4_addMember_35 rfl ?_
  refine r_iconst M dX4_addMember_36 ?_
  refine r_callV1 MM dX4_addMember_37 ck_X4_76 vk_X4_fails ⟨by omega, by omega, by omega⟩ ⟨by decide, by decide, rfl⟩ (by decide) (Nat.le_of_ble_eq_true rfl) (m_fails ?_)
  refine r_iret MM dX4_addMember_40 ?_
  exact ret_S (h1 (by omega)) (thr_thr S 0 1)
theorem m_addClient {z v : Int} (hz : -2147483648 ≤ z ∧ z ≤ 2147483647) (hv : -2147483648 ≤ v ∧ v ≤ 2147483647) (hI : mI S)
    (hok : ∀ j : Nat, z = j → j < 10 → (j : Int) < S 11 0 9 → (1 ≤ v ∧ v ≤ 20) → mact S j → v ≤ romM S j → ∀ S', S' = up3 (up3 (up3 (up3 (up3 (thr S 0) 21 0 (nC S) z) 22 0 (nC S) v) 23 0 (nC S) (S 11 0 13)) 11 0 13 (S 11 0 13 + 1)) 11 0 14 (S 11 0 14 + 1) → Ret (some (vI (romM S' j))) S')
    (h1 : ¬ (0 ≤ z ∧ z < S 11 0 9) → Ret (some (vI 0)) (thr S 1)) (h2 : (0 ≤ z ∧ z < S 11 0 9) → ¬ (1 ≤ v ∧ v ≤ 20) → Ret (some (vI 0)) (thr S 2)) (h3 : ∀ j : Nat, z = j → j < 10 → (j : Int) < S 11 0 9 → (1 ≤ v ∧ v ≤ 20) → ¬ (mact S j ∧ v ≤ romM S j) → Ret (some (vI 0)) (thr S 3)) : Cn g yX4_addClient cX4_addClient 3 (some .int) 2 44 0 [vR 11 0, vI z, vI v] S Ret Thr := by
  refine enter (L := [some (vR 11 0), some (vI z), some (vI v)]) (by decide +kernel) (Nat.le_of_ble_eq_true rfl) rfl (fun K MM => ?_)
  have M := MM.mk
  have hN := hI.1
  unfold mN at hN
  have hnC : ((nC S : Nat) : Int) = S 11 0 14 := by unfold nC; omega
  have hO := hI.2.2.1
  refine r_aload_n M dX4_addClient_0 rfl ?_
  refine r_iconst M dX4_addClient_1 ?_
  refine r_putI M dX4_addClient_2 pk_X4_65 (by decide) ?_
  refine r_aload_n M dX4_addClient_5 rfl ?_
  refine r_iload_n M dX4_addClient_6 rfl ?_
  refine r_callV1 MM dX4_addClient_7 ck_X4_86 vk_X4_isMember ⟨by omega, by omega, by omega⟩ ⟨by decide, by decide, rfl⟩ (by decide) (Nat.le_of_ble_eq_true rfl) (m_isMember (c := S 11 0 9) rfl hz hI.1.1 (fun j ej hj hjc => ?_) (fun hb => ?_))
  · refine r_if_ne M dX4_addClient_10 (tgt := 19) rfl (by omega) (fun b10 => ?_) (fun b10 => by omega)
    refine r_iload_n M dX4_addClient_19 rfl ?_
    refine r_iconst M dX4_addClient_20 ?_
    refine r_bipush M dX4_addClient_21 rfl ?_
    refine r_callS3 MM dX4_addClient_23 sl_X4_71 st_X4_in rfl ck_X4_71 ⟨by omega, by omega, by omega⟩ (Nat.le_of_ble_eq_true rfl) (m_in hv (by omega) (by omega) (fun q2 => ?_) (fun q2 => ?_))
    · refine r_if_ne M dX4_addClient_26 (tgt := 35) rfl (by omega) (fun b26 => ?_) (fun b26 => by omega)
      refine r_aload_n M dX4_addClient_35 rfl ?_
      refine r_iload_n M dX4_addClient_36 rfl ?_
      refine r_callV1 MM dX4_addClient_37 ck_X4_90 vk_X4_isActive ⟨by omega, by omega, by omega⟩ ⟨by decide, by decide, rfl⟩ (by decide) (Nat.le_of_ble_eq_true rfl) (m_isActive ej hj (v := S 17 0 j) rfl (by have h9 := (hI.2.1 j hj).2.2.2.2.2.1; omega) (fun q3 => ?_) (fun q3 => ?_))
      · refine r_if_eq M dX4_addClient_40 (tgt := 52) rfl (by omega) (fun b40 => by omega) (fun b40 => ?_)
        refine r_aload_n M dX4_addClient_43 rfl ?_
        refine r_iload_n M dX4_addClient_44 rfl ?_
        refine r_callV1 MM dX4_addClient_45 ck_X4_93 vk_X4_roomOf ⟨by omega, by omega, by omega⟩ ⟨by decide, by decide, rfl⟩ (by decide) (Nat.le_of_ble_eq_true rfl) (m_roomOf ej hj (show 0 ≤ S 11 0 14 ∧ S 11 0 14 ≤ 1000 by omega) hO ?_)
        refine r_iload_n M dX4_addClient_48 rfl ?_
        refine r_icmp_ge M dX4_addClient_49 (tgt := 58) rfl (by have h9 := lotM_rng hO j (nC S) (by omega); have h8 := (hI.2.1 j hj).2.2.1; have h7 : romM (thr S 0) j = S 14 0 j - lotM S j (nC S) := rfl; have e6 : romM (up3 S 11 0 25 0) j = romM (thr S 0) j := rfl; omega) (fun b49 => ?_) (fun b49 => ?_)
        · refine r_aload_n M dX4_addClient_58 rfl ?_
          refine r_getR M dX4_addClient_59 fk_X4_37 (by decide) rfl ?_
          refine r_aload_n M dX4_addClient_62 rfl ?_
          refine r_getV M dX4_addClient_63 fk_X4_80 (by decide) rfl (S 11 0 14) (by rfl) ?_
          refine r_iload_n M dX4_addClient_66 rfl ?_
          refine r_iast M (nC S) dX4_addClient_67 ⟨rfl, by decide⟩ (by decide) (by omega) (show (_ : Nat) < 1000 by omega) (Nat.le_of_ble_eq_true rfl) ?_
          refine r_aload_n M dX4_addClient_68 rfl ?_
          refine r_getR M dX4_addClient_69 fk_X4_40 (by decide) rfl ?_
          refine r_aload_n M dX4_addClient_72 rfl ?_
          refine r_getV M dX4_addClient_73 fk_X4_80 (by decide) rfl (S 11 0 14) (by rfl) ?_
          refine r_iload_n M dX4_addClient_76 rfl ?_
          refine r_iast M (nC S) dX4_addClient_77 ⟨rfl, by decide⟩ (by decide) (by omega) (show (_ : Nat) < 1000 by omega) (Nat.le_of_ble_eq_true rfl) ?_
          refine r_aload_n M dX4_addClient_78 rfl ?_
          refine r_getR M dX4_addClient_79 fk_X4_43 (by decide) rfl ?_
          refine r_aload_n M dX4_addClient_82 rfl ?_
          refine r_getV M dX4_addClient_83 fk_X4_80 (by decide) rfl (S 11 0 14) (by rfl) ?_
          refine r_aload_n M dX4_addClient_86 rfl ?_
          refine r_getV M dX4_addClient_87 fk_X4_96 (by decide) rfl (S 11 0 13) (by rfl) ?_
          refine r_iast M (nC S) dX4_addClient_90 ⟨rfl, by decide⟩ (by decide) (by omega) (show (_ : Nat) < 1000 by omega) (Nat.le_of_ble_eq_true rfl) ?_
          refine r_aload_n M dX4_addClient_91 rfl ?_
          refine r_dupR M dX4_addClient_92 ?_
          refine r_getV M dX4_addClient_93 fk_X4_96 (by decide) rfl (S 11 0 13) (by rfl) ?_
          refine r_iconst M dX4_addClient_96 ?_
          refine r_iadd M dX4_addClient_97 ?_
          refine r_putI M dX4_addClient_98 pk_X4_96 (by decide) ?_
          refine r_aload_n M dX4_addClient_101 rfl ?_
          refine r_dupR M dX4_addClient_102 ?_
          refine r_getV M dX4_addClient_103 fk_X4_80 (by decide) rfl (S 11 0 14) (by rfl) ?_
          refine r_iconst M dX4_addClient_106 ?_
          refine r_iadd M dX4_addClient_107 ?_
          refine r_putI M dX4_addClient_108 pk_X4_80 (by decide) ?_
          refine r_aload_n M dX4_addClient_111 rfl ?_
          refine r_iload_n M dX4_addClient_112 rfl ?_
          refine r_callV1 MM dX4_addClient_113 ck_X4_93 vk_X4_roomOf ⟨by omega, by omega, by omega⟩ ⟨by decide, by decide, rfl⟩ (by decide) (Nat.le_of_ble_eq_true rfl) (m_roomOf ej hj (show 0 ≤ S 11 0 14 + 1 ∧ S 11 0 14 + 1 ≤ 1000 by omega) (mO_add hO (by omega) (by omega) (by omega)) ?_)
          refine r_iret MM dX4_addClient_116 ?_
          exact hok j ej hj hjc q2 q3 (by have e6 : romM (up3 S 11 0 25 0) j = romM S j := rfl; omega) _ rfl
        refine r_aload_n M dX4_addClient_52 rfl ?_
        refine r_iconst M dX4_addClient_53 ?_
        refine r_callV1 MM dX4_addClient_54 ck_X4_76 vk_X4_fails ⟨by omega, by omega, by omega⟩ ⟨by decide, by decide, rfl⟩ (by decide) (Nat.le_of_ble_eq_true rfl) (m_fails ?_)
        refine r_iret MM dX4_addClient_57 ?_
        first | exact ret_S (h3 j ej hj hjc q2 (fun w => q3 w.1)) (thr_thr S 0 3) | exact ret_S (h3 j ej hj hjc q2 (fun w => by have e6 : romM (up3 S 11 0 25 0) j = romM S j := rfl; have := w.2; omega)) (thr_thr S 0 3)
      refine r_if_eq M dX4_addClient_40 (tgt := 52) rfl (by omega) (fun b40 => ?_) (fun b40 => by omega)
      refine r_aload_n M dX4_addClient_52 rfl ?_
      refine r_iconst M dX4_addClient_53 ?_
      refine r_callV1 MM dX4_addClient_54 ck_X4_76 vk_X4_fails ⟨by omega, by omega, by omega⟩ ⟨by decide, by decide, rfl⟩ (by decide) (Nat.le_of_ble_eq_true rfl) (m_fails ?_)
      refine r_iret MM dX4_addClient_57 ?_
      first | exact ret_S (h3 j ej hj hjc q2 (fun w => q3 w.1)) (thr_thr S 0 3) | exact ret_S (h3 j ej hj hjc q2 (fun w => by have e6 : romM (up3 S 11 0 25 0) j = romM S j := rfl; have := w.2; omega)) (thr_thr S 0 3)
    refine r_if_ne M dX4_addClient_26 (tgt := 35) rfl (by omega) (fun b26 => by omega) (fun b26 => ?_)
    refine r_aload_n M dX4_addClient_29 rfl ?_
    refine r_iconst M dX4_addClient_30 ?_
    refine r_callV1 MM dX4_addClient_31 ck_X4_76 vk_X4_fails ⟨by omega, by omega, by omega⟩ ⟨by decide, by decide, rfl⟩ (by decide) (Nat.le_of_ble_eq_true rfl) (m_fails ?_)
    refine r_iret MM dX4_addClient_34 ?_
    exact ret_S (h2 (by omega) q2) (thr_thr S 0 2)
  refine r_if_ne M dX4_addClient_10 (tgt := 19) rfl (by omega) (fun b10 => by omega) (fun b10 => ?_)
  refine r_aload_n M dX4_addClient_13 rfl ?_
  refine r_iconst M dX4_addClient_14 ?_
  refine r_callV1 MM dX4_addClient_15 ck_X4_76 vk_X4_fails ⟨by omega, by omega, by omega⟩ ⟨by decide, by decide, rfl⟩ (by decide) (Nat.le_of_ble_eq_true rfl) (m_fails ?_)
  refine r_iret MM dX4_addClient_18 ?_
  exact ret_S (h1 hb) (thr_thr S 0 1)
end XModel
