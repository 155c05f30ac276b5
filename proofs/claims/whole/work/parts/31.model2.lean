/-! ===== the reference: setters, bids, winners, ranks ===== -/
def aS (S : St) (T : Nat) (f : Nat → Int) (l : Nat) : St := fun t i k => if t = T ∧ i = 0 ∧ k < l then f k else S t i k
theorem aS_0 (S : St) (T : Nat) (f : Nat → Int) : aS S T f 0 = S := by
  funext t i k
  unfold aS
  rw [if_neg (by omega)]
theorem aS_s {S : St} {T : Nat} {f : Nat → Int} {l : Nat} {x : Int} (hx : x = f l) : up3 (aS S T f l) T 0 l x = aS S T f (l + 1) := by
  subst hx
  funext t i k
  unfold up3 aS
  by_cases h : t = T ∧ i = 0 ∧ k = l
  · rw [if_pos h, if_pos (by omega), h.2.2]
  · rw [if_neg h]
    by_cases h2 : t = T ∧ i = 0 ∧ k < l
    · rw [if_pos h2, if_pos (by omega)]
    · rw [if_neg h2, if_neg (by omega)]
theorem aS_at (S : St) (T : Nat) (f : Nat → Int) (l : Nat) : aS S T f l T 0 l = S T 0 l := by
  unfold aS
  rw [if_neg (by omega)]
theorem aS_in {S : St} {T : Nat} {f : Nat → Int} {l k : Nat} (h : k < l) : aS S T f l T 0 k = f k := by
  unfold aS
  rw [if_pos ⟨rfl, rfl, h⟩]
def ownN (S : St) (lots : Int) : Nat → Int
  | 0 => -1
  | m + 1 => if ownN S lots m ≠ -1 then ownN S lots m else if mact S m ∧ lots ≤ romM S m then (m : Int) else -1
theorem ownN_no {S : St} {lots : Int} : ∀ m : Nat, (∀ i, i < m → ¬ (mact S i ∧ lots ≤ romM S i)) → ownN S lots m = -1
  | 0, _ => rfl
  | m + 1, h => by
    unfold ownN
    rw [ownN_no m (fun i hi => h i (by omega)), if_neg (by omega), if_neg (h m (by omega))]
theorem ownN_first {S : St} {lots : Int} {j : Nat} (h1 : mact S j ∧ lots ≤ romM S j) (h2 : ∀ i, i < j → ¬ (mact S i ∧ lots ≤ romM S i)) : ∀ m, j < m → ownN S lots m = j
  | m + 1, hm => by
    unfold ownN
    by_cases e : j = m
    · subst e
      rw [ownN_no j h2, if_neg (by omega), if_pos h1]
    · rw [ownN_first h1 h2 m (by omega), if_pos (by omega)]
theorem ownN_rng {S : St} {lots : Int} : ∀ m : Nat, ownN S lots m = -1 ∨ ∃ j : Nat, ownN S lots m = j ∧ j < m ∧ mact S j ∧ lots ≤ romM S j
  | 0 => Or.inl rfl
  | m + 1 => by
    unfold ownN
    rcases ownN_rng (S := S) (lots := lots) m with h | ⟨j, h, hj, h2⟩
    · rw [h, if_neg (by omega)]
      by_cases q : mact S m ∧ lots ≤ romM S m
      · rw [if_pos q]
        exact Or.inr ⟨m, rfl, by omega, q⟩
      · rw [if_neg q]
        exact Or.inl rfl
    · rw [h, if_pos (by omega)]
      exact Or.inr ⟨j, rfl, by omega, h2⟩
def foN (S : St) (z : Int) : Nat → Int
  | 0 => -1
  | k + 1 => if S 21 0 k = z ∧ (foN S z k = -1 ∨ S 23 0 k < S 23 0 (foN S z k).toNat) then (k : Int) else foN S z k
theorem foN_rng (S : St) (z : Int) : ∀ m : Nat, foN S z m = -1 ∧ (∀ i, i < m → S 21 0 i ≠ z) ∨ ∃ j : Nat, foN S z m = j ∧ j < m ∧ S 21 0 j = z ∧ ∀ i, i < m → S 21 0 i = z → S 23 0 j ≤ S 23 0 i
  | 0 => Or.inl ⟨rfl, fun i hi => by omega⟩
  | m + 1 => by
    unfold foN
    rcases foN_rng S z m with ⟨h, hn⟩ | ⟨j, h, hj, h2, h3⟩
    · rw [h]
      by_cases q : S 21 0 m = z
      · rw [if_pos ⟨q, Or.inl rfl⟩]
        refine Or.inr ⟨m, rfl, by omega, q, fun i hi hz => ?_⟩
        by_cases e : i = m
        · subst e; omega
        · exact absurd hz (hn i (by omega))
      · rw [if_neg (fun w => q w.1)]
        refine Or.inl ⟨rfl, fun i hi => ?_⟩
        by_cases e : i = m
        · subst e; exact q
        · exact hn i (by omega)
    · rw [h, show ((j : Int)).toNat = j by omega]
      by_cases q : S 21 0 m = z ∧ S 23 0 m < S 23 0 j
      · rw [if_pos ⟨q.1, Or.inr q.2⟩]
        refine Or.inr ⟨m, rfl, by omega, q.1, fun i hi hz => ?_⟩
        by_cases e : i = m
        · subst e; omega
        · have := h3 i (by omega) hz
          omega
      · rw [if_neg (fun w => q ⟨w.1, by rcases w.2 with w | w <;> omega⟩)]
        refine Or.inr ⟨j, rfl, by omega, h2, fun i hi hz => ?_⟩
        by_cases e : i = m
        · subst e
          exact Int.not_lt.mp (fun w => q ⟨hz, w⟩)
        · exact h3 i (by omega) hz
def wmN (S : St) (lot : Nat) : Nat → Int
  | 0 => -1
  | k + 1 => if S 24 0 (10 * lot + k) ≠ 5000 ∧ (wmN S lot k = -1 ∨ S 24 0 (10 * lot + (wmN S lot k).toNat) < S 24 0 (10 * lot + k)) then (k : Int) else wmN S lot k
theorem wmN_succ (S : St) (lot k : Nat) : wmN S lot (k + 1) = if S 24 0 (10 * lot + k) ≠ 5000 ∧ (wmN S lot k = -1 ∨ S 24 0 (10 * lot + (wmN S lot k).toNat) < S 24 0 (10 * lot + k)) then (k : Int) else wmN S lot k := rfl
theorem wmN_rng (S : St) (lot : Nat) : ∀ m : Nat, wmN S lot m = -1 ∧ (∀ i, i < m → S 24 0 (10 * lot + i) = 5000) ∨ 0 ≤ wmN S lot m ∧ wmN S lot m < m
  | 0 => Or.inl ⟨rfl, fun i hi => by omega⟩
  | m + 1 => by
    rw [wmN_succ]
    split
    · exact Or.inr ⟨by omega, by omega⟩
    · rename_i q
      rcases wmN_rng S lot m with ⟨h, hn⟩ | h
      · refine Or.inl ⟨h, fun i hi => ?_⟩
        by_cases e : i = m
        · subst e
          exact Classical.byContradiction fun w => q ⟨w, Or.inl h⟩
        · exact hn i (by omega)
      · exact Or.inr ⟨h.1, by omega⟩
def wmr (S : St) (lot : Nat) : Int := wmN S lot (nM S)
abbrev loW (S : St) (i lot : Nat) : Prop := 100 < S 24 0 (10 * lot + (wmr S lot).toNat) - S 24 0 (10 * lot + i)
def tdN (S : St) (i : Nat) : Nat → Int
  | 0 => 0
  | l + 1 => if S 24 0 (10 * l + i) ≠ 5000 then tdN S i l + 1 else tdN S i l
def loN (S : St) (i : Nat) : Nat → Int
  | 0 => 0
  | l + 1 => if S 24 0 (10 * l + i) ≠ 5000 then loN S i l + (if loW S i l then 1 else 0) else loN S i l
theorem tdN_rng (S : St) (i : Nat) : ∀ l, 0 ≤ tdN S i l ∧ tdN S i l ≤ l
  | 0 => ⟨Int.le_refl _, Int.le_refl _⟩
  | l + 1 => by
    have h := tdN_rng S i l
    unfold tdN
    split <;> omega
theorem loN_rng (S : St) (i : Nat) : ∀ l, 0 ≤ loN S i l ∧ loN S i l ≤ l
  | 0 => ⟨Int.le_refl _, Int.le_refl _⟩
  | l + 1 => by
    have h := loN_rng S i l
    unfold loN
    split
    · split <;> omega
    · omega
def nB (S : St) : Nat := (S 11 0 19).toNat
abbrev mpoor (S : St) (i : Nat) : Prop := 2 * tdN S i (nB S) < S 11 0 19 ∨ tdN S i (nB S) < 2 * loN S i (nB S)
def mpV (S : St) (i : Nat) : Int := if mpoor S i then 1 else 0
/-- the owners that were z are none -/
def owS (S : St) (z : Int) (l : Nat) : St := fun t i k => if t = 21 ∧ i = 0 ∧ k < l ∧ S 21 0 k = z then -1 else S t i k
theorem owS_0 (S : St) (z : Int) : owS S z 0 = S := by
  funext t i k
  unfold owS
  rw [if_neg (by omega)]
theorem owS_s (S : St) (z : Int) (l : Nat) {x : Int} (hx : x = if S 21 0 l = z then -1 else S 21 0 l) : up3 (owS S z l) 21 0 l x = owS S z (l + 1) := by
  subst hx
  funext t i k
  show (if t = 21 ∧ i = 0 ∧ k = l then (if S 21 0 l = z then (-1 : Int) else S 21 0 l) else if t = 21 ∧ i = 0 ∧ k < l ∧ S 21 0 k = z then -1 else S t i k) = if t = 21 ∧ i = 0 ∧ k < l + 1 ∧ S 21 0 k = z then -1 else S t i k
  by_cases h : t = 21 ∧ i = 0 ∧ k = l
  · obtain ⟨rfl, rfl, rfl⟩ := h
    by_cases q : S 21 0 k = z <;> simp [q]
  · simp only [if_neg h]
    by_cases h2 : t = 21 ∧ i = 0 ∧ k < l ∧ S 21 0 k = z
    · simp only [if_pos h2, if_pos (show t = 21 ∧ i = 0 ∧ k < l + 1 ∧ S 21 0 k = z from ⟨h2.1, h2.2.1, by omega, h2.2.2.2⟩)]
    · simp only [if_neg h2, if_neg (show ¬ (t = 21 ∧ i = 0 ∧ k < l + 1 ∧ S 21 0 k = z) from fun q => h2 ⟨q.1, q.2.1, by omega, q.2.2.2⟩)]
theorem owS_at (S : St) (z : Int) (l : Nat) : owS S z l 21 0 l = S 21 0 l := by
  unfold owS
  rw [if_neg (by omega)]
def em0 (S : St) (i : Nat) (x : Int) : St := up3 (up3 (up3 (up3 S 17 0 i x) 12 0 i 0) 13 0 i 0) 15 0 i 0
def emM (S : St) (i : Nat) (x : Int) : St := owS (em0 S i x) i (nC S)
section XModel2
variable {g : Gl} {S : St} {Ret : Option AV → St → Prop} {Thr : String → St → Prop}
theorem m_setGain {z v : Int} (hz : -2147483648 ≤ z ∧ z ≤ 2147483647) (hv : -2147483648 ≤ v ∧ v ≤ 2147483647) (hI : mI S)
    (hok : ∀ j : Nat, z = j → j < 10 → (j : Int) < S 11 0 9 → (0 ≤ v ∧ v ≤ 1000000) → mact S j → Ret (some (vI (S 15 0 j))) (up3 (thr S 0) 15 0 j v))
    (h1 : ¬ (0 ≤ z ∧ z < S 11 0 9) → Ret (some (vI 0)) (thr S 1)) (h2 : (0 ≤ z ∧ z < S 11 0 9) → ¬ (0 ≤ v ∧ v ≤ 1000000) → Ret (some (vI 0)) (thr S 2)) (h3 : ∀ j : Nat, z = j → j < 10 → (j : Int) < S 11 0 9 → (0 ≤ v ∧ v ≤ 1000000) → ¬ mact S j → Ret (some (vI 0)) (thr S 3)) : Cn g yX4_setGain cX4_setGain 4 (some .int) 2 43 0 [vR 11 0, vI z, vI v] S Ret Thr := by
  refine enter (L := [some (vR 11 0), some (vI z), some (vI v), none]) (by decide +kernel) (Nat.le_of_ble_eq_true rfl) rfl (fun K MM => ?_)
  have M := MM.mk
  refine r_aload_n M dX4_setGain_0 rfl ?_
  refine r_iconst M dX4_setGain_1 ?_
  refine r_putI M dX4_setGain_2 pk_X4_65 (by decide) ?_
  refine r_aload_n M dX4_setGain_5 rfl ?_
  refine r_iload_n M dX4_setGain_6 rfl ?_
  refine r_callV1 MM dX4_setGain_7 ck_X4_86 vk_X4_isMember ⟨by omega, by omega, by omega⟩ ⟨by decide, by decide, rfl⟩ (by decide) (Nat.le_of_ble_eq_true rfl) (m_isMember (c := S 11 0 9) rfl hz hI.1.1 (fun j ej hj hjc => ?_) (fun hb => ?_))
  · refine r_if_ne M dX4_setGain_10 (tgt := 19) rfl (by omega) (fun b10 => ?_) (fun b10 => by omega)
    refine r_iload_n M dX4_setGain_19 rfl ?_
    refine r_iconst M dX4_setGain_20 ?_
    refine r_ldc M dX4_setGain_21 kc_X4_75 (z := 1000000) rfl ?_
    refine r_callS3 MM dX4_setGain_23 sl_X4_71 st_X4_in rfl ck_X4_71 ⟨by omega, by omega, by omega⟩ (Nat.le_of_ble_eq_true rfl) (m_in hv (by omega) (by omega) (fun q2 => ?_) (fun q2 => ?_))
    · refine r_if_ne M dX4_setGain_26 (tgt := 35) rfl (by omega) (fun b26 => ?_) (fun b26 => by omega)
      refine r_aload_n M dX4_setGain_35 rfl ?_
      refine r_iload_n M dX4_setGain_36 rfl ?_
      refine r_callV1 MM dX4_setGain_37 ck_X4_90 vk_X4_isActive ⟨by omega, by omega, by omega⟩ ⟨by decide, by decide, rfl⟩ (by decide) (Nat.le_of_ble_eq_true rfl) (m_isActive ej hj (v := S 17 0 j) rfl (by have h9 := (hI.2.1 j hj).2.2.2.2.2.1; omega) (fun q3 => ?_) (fun q3 => ?_))
      · refine r_if_ne M dX4_setGain_40 (tgt := 49) rfl (by omega) (fun b40 => ?_) (fun b40 => by omega)
        refine r_aload_n M dX4_setGain_49 rfl ?_
        refine r_getR M dX4_setGain_50 fk_X4_19 (by decide) rfl ?_
        refine r_iload_n M dX4_setGain_53 rfl ?_
        refine r_iald M (j) dX4_setGain_54 ⟨rfl, by decide⟩ (by decide) (by omega) (show (_ : Nat) < 10 by omega) (Nat.le_of_ble_eq_true rfl) ?_
        refine r_istore_3 M dX4_setGain_55 (by decide) rfl ?_
        refine r_aload_n M dX4_setGain_56 rfl ?_
        refine r_getR M dX4_setGain_57 fk_X4_19 (by decide) rfl ?_
        refine r_iload_n M dX4_setGain_60 rfl ?_
        refine r_iload_n M dX4_setGain_61 rfl ?_
        refine r_iast M (j) dX4_setGain_62 ⟨rfl, by decide⟩ (by decide) (by omega) (show (_ : Nat) < 10 by omega) (Nat.le_of_ble_eq_true rfl) ?_
        refine r_iload_n M dX4_setGain_63 rfl ?_
        refine r_iret MM dX4_setGain_64 ?_
        exact hok j ej hj hjc q2 q3
      refine r_if_ne M dX4_setGain_40 (tgt := 49) rfl (by omega) (fun b40 => by omega) (fun b40 => ?_)
      refine r_aload_n M dX4_setGain_43 rfl ?_
      refine r_iconst M dX4_setGain_44 ?_
      refine r_callV1 MM dX4_setGain_45 ck_X4_76 vk_X4_fails ⟨by omega, by omega, by omega⟩ ⟨by decide, by decide, rfl⟩ (by decide) (Nat.le_of_ble_eq_true rfl) (m_fails ?_)
      refine r_iret MM dX4_setGain_48 ?_
      exact ret_S (h3 j ej hj hjc q2 q3) (thr_thr S 0 3)
    refine r_if_ne M dX4_setGain_26 (tgt := 35) rfl (by omega) (fun b26 => by omega) (fun b26 => ?_)
    refine r_aload_n M dX4_setGain_29 rfl ?_
    refine r_iconst M dX4_setGain_30 ?_
    refine r_callV1 MM dX4_setGain_31 ck_X4_76 vk_X4_fails ⟨by omega, by omega, by omega⟩ ⟨by decide, by decide, rfl⟩ (by decide) (Nat.le_of_ble_eq_true rfl) (m_fails ?_)
    refine r_iret MM dX4_setGain_34 ?_
    exact ret_S (h2 (by omega) q2) (thr_thr S 0 2)
  refine r_if_ne M dX4_setGain_10 (tgt := 19) rfl (by omega) (fun b10 => by omega) (fun b10 => ?_)
  refine r_aload_n M dX4_setGain_13 rfl ?_
  refine r_iconst M dX4_setGain_14 ?_
  refine r_callV1 MM dX4_setGain_15 ck_X4_76 vk_X4_fails ⟨by omega, by omega, by omega⟩ ⟨by decide, by decide, rfl⟩ (by decide) (Nat.le_of_ble_eq_true rfl) (m_fails ?_)
  refine r_iret MM dX4_setGain_18 ?_
  exact ret_S (h1 hb) (thr_thr S 0 1)
theorem m_setTested {z v : Int} (hz : -2147483648 ≤ z ∧ z ≤ 2147483647) (hv : -2147483648 ≤ v ∧ v ≤ 2147483647) (hI : mI S)
    (hok : ∀ j : Nat, z = j → j < 10 → (j : Int) < S 11 0 9 → (0 ≤ v ∧ v ≤ 1000000) → mact S j → Ret (some (vI (S 16 0 j))) (up3 (thr S 0) 16 0 j v))
    (h1 : ¬ (0 ≤ z ∧ z < S 11 0 9) → Ret (some (vI 0)) (thr S 1)) (h2 : (0 ≤ z ∧ z < S 11 0 9) → ¬ (0 ≤ v ∧ v ≤ 1000000) → Ret (some (vI 0)) (thr S 2)) (h3 : ∀ j : Nat, z = j → j < 10 → (j : Int) < S 11 0 9 → (0 ≤ v ∧ v ≤ 1000000) → ¬ mact S j → Ret (some (vI 0)) (thr S 3)) : Cn g yX4_setTested cX4_setTested 4 (some .int) 2 43 0 [vR 11 0, vI z, vI v] S Ret Thr := by
  refine enter (L := [some (vR 11 0), some (vI z), some (vI v), none]) (by decide +kernel) (Nat.le_of_ble_eq_true rfl) rfl (fun K MM => ?_)
  have M := MM.mk
  refine r_aload_n M dX4_setTested_0 rfl ?_
  refine r_iconst M dX4_setTested_1 ?_
  refine r_putI M dX4_setTested_2 pk_X4_65 (by decide) ?_
  refine r_aload_n M dX4_setTested_5 rfl ?_
  refine r_iload_n M dX4_setTested_6 rfl ?_
  refine r_callV1 MM dX4_setTested_7 ck_X4_86 vk_X4_isMember ⟨by omega, by omega, by omega⟩ ⟨by decide, by decide, rfl⟩ (by decide) (Nat.le_of_ble_eq_true rfl) (m_isMember (c := S 11 0 9) rfl hz hI.1.1 (fun j ej hj hjc => ?_) (fun hb => ?_))
  · refine r_if_ne M dX4_setTested_10 (tgt := 19) rfl (by omega) (fun b10 => ?_) (fun b10 => by omega)
    refine r_iload_n M dX4_setTested_19 rfl ?_
    refine r_iconst M dX4_setTested_20 ?_
    refine r_ldc M dX4_setTested_21 kc_X4_75 (z := 1000000) rfl ?_
    refine r_callS3 MM dX4_setTested_23 sl_X4_71 st_X4_in rfl ck_X4_71 ⟨by omega, by omega, by omega⟩ (Nat.le_of_ble_eq_true rfl) (m_in hv (by omega) (by omega) (fun q2 => ?_) (fun q2 => ?_))
    · refine r_if_ne M dX4_setTested_26 (tgt := 35) rfl (by omega) (fun b26 => ?_) (fun b26 => by omega)
      refine r_aload_n M dX4_setTested_35 rfl ?_
      refine r_iload_n M dX4_setTested_36 rfl ?_
      refine r_callV1 MM dX4_setTested_37 ck_X4_90 vk_X4_isActive ⟨by omega, by omega, by omega⟩ ⟨by decide, by decide, rfl⟩ (by decide) (Nat.le_of_ble_eq_true rfl) (m_isActive ej hj (v := S 17 0 j) rfl (by have h9 := (hI.2.1 j hj).2.2.2.2.2.1; omega) (fun q3 => ?_) (fun q3 => ?_))
      · refine r_if_ne M dX4_setTested_40 (tgt := 49) rfl (by omega) (fun b40 => ?_) (fun b40 => by omega)
        refine r_aload_n M dX4_setTested_49 rfl ?_
        refine r_getR M dX4_setTested_50 fk_X4_22 (by decide) rfl ?_
        refine r_iload_n M dX4_setTested_53 rfl ?_
        refine r_iald M (j) dX4_setTested_54 ⟨rfl, by decide⟩ (by decide) (by omega) (show (_ : Nat) < 10 by omega) (Nat.le_of_ble_eq_true rfl) ?_
        refine r_istore_3 M dX4_setTested_55 (by decide) rfl ?_
        refine r_aload_n M dX4_setTested_56 rfl ?_
        refine r_getR M dX4_setTested_57 fk_X4_22 (by decide) rfl ?_
        refine r_iload_n M dX4_setTested_60 rfl ?_
        refine r_iload_n M dX4_setTested_61 rfl ?_
        refine r_iast M (j) dX4_setTested_62 ⟨rfl, by decide⟩ (by decide) (by omega) (show (_ : Nat) < 10 by omega) (Nat.le_of_ble_eq_true rfl) ?_
        refine r_iload_n M dX4_setTested_63 rfl ?_
        refine r_iret MM dX4_setTested_64 ?_
        exact hok j ej hj hjc q2 q3
      refine r_if_ne M dX4_setTested_40 (tgt := 49) rfl (by omega) (fun b40 => by omega) (fun b40 => ?_)
      refine r_aload_n M dX4_setTested_43 rfl ?_
      refine r_iconst M dX4_setTested_44 ?_
      refine r_callV1 MM dX4_setTested_45 ck_X4_76 vk_X4_fails ⟨by omega, by omega, by omega⟩ ⟨by decide, by decide, rfl⟩ (by decide) (Nat.le_of_ble_eq_true rfl) (m_fails ?_)
      refine r_iret MM dX4_setTested_48 ?_
      exact ret_S (h3 j ej hj hjc q2 q3) (thr_thr S 0 3)
    refine r_if_ne M dX4_setTested_26 (tgt := 35) rfl (by omega) (fun b26 => by omega) (fun b26 => ?_)
    refine r_aload_n M dX4_setTested_29 rfl ?_
    refine r_iconst M dX4_setTested_30 ?_
    refine r_callV1 MM dX4_setTested_31 ck_X4_76 vk_X4_fails ⟨by omega, by omega, by omega⟩ ⟨by decide, by decide, rfl⟩ (by decide) (Nat.le_of_ble_eq_true rfl) (m_fails ?_)
    refine r_iret MM dX4_setTested_34 ?_
    exact ret_S (h2 (by omega) q2) (thr_thr S 0 2)
  refine r_if_ne M dX4_setTested_10 (tgt := 19) rfl (by omega) (fun b10 => by omega) (fun b10 => ?_)
  refine r_aload_n M dX4_setTested_13 rfl ?_
  refine r_iconst M dX4_setTested_14 ?_
  refine r_callV1 MM dX4_setTested_15 ck_X4_76 vk_X4_fails ⟨by omega, by omega, by omega⟩ ⟨by decide, by decide, rfl⟩ (by decide) (Nat.le_of_ble_eq_true rfl) (m_fails ?_)
  refine r_iret MM dX4_setTested_18 ?_
  exact ret_S (h1 hb) (thr_thr S 0 1)
theorem m_setCapital {v : Int} (hv : -2147483648 ≤ v ∧ v ≤ 2147483647) (hok : (0 ≤ v ∧ v ≤ 1000000) → Ret (some (vI (S 11 0 15))) (up3 (thr S 0) 11 0 15 v)) (h1 : ¬ (0 ≤ v ∧ v ≤ 1000000) → Ret (some (vI 0)) (thr S 1)) : Cn g yX4_setCapital cX4_setCapital 3 (some .int) 1 22 0 [vR 11 0, vI v] S Ret Thr := by
  refine enter (L := [some (vR 11 0), some (vI v), none]) (by decide +kernel) (Nat.le_of_ble_eq_true rfl) rfl (fun K MM => ?_)
  have M := MM.mk
  refine r_aload_n M dX4_setCapital_0 rfl ?_
  refine r_iconst M dX4_setCapital_1 ?_
  refine r_putI M dX4_setCapital_2 pk_X4_65 (by decide) ?_
  refine r_iload_n M dX4_setCapital_5 rfl ?_
  refine r_iconst M dX4_setCapital_6 ?_
  refine r_ldc M dX4_setCapital_7 kc_X4_75 (z := 1000000) rfl ?_
  refine r_callS3 MM dX4_setCapital_9 sl_X4_71 st_X4_in rfl ck_X4_71 ⟨by omega, by omega, by omega⟩ (Nat.le_of_ble_eq_true rfl) (m_in hv (by omega) (by omega) (fun q2 => ?_) (fun q2 => ?_))
  · refine r_if_ne M dX4_setCapital_12 (tgt := 21) rfl (by omega) (fun b12 => ?_) (fun b12 => by omega)
    refine r_aload_n M dX4_setCapital_21 rfl ?_
    refine r_getI M dX4_setCapital_22 fk_X4_99 (by decide) rfl ?_
    refine r_istore_2 M dX4_setCapital_25 (by decide) rfl ?_
    refine r_aload_n M dX4_setCapital_26 rfl ?_
    refine r_iload_n M dX4_setCapital_27 rfl ?_
    refine r_putI M dX4_setCapital_28 pk_X4_99 (by decide) ?_
    refine r_iload_n M dX4_setCapital_31 rfl ?_
    refine r_iret MM dX4_setCapital_32 ?_
    exact hok q2
  refine r_if_ne M dX4_setCapital_12 (tgt := 21) rfl (by omega) (fun b12 => by omega) (fun b12 => ?_)
  refine r_aload_n M dX4_setCapital_15 rfl ?_
  refine r_iconst M dX4_setCapital_16 ?_
  refine r_callV1 MM dX4_setCapital_17 ck_X4_76 vk_X4_fails ⟨by omega, by omega, by omega⟩ ⟨by decide, by decide, rfl⟩ (by decide) (Nat.le_of_ble_eq_true rfl) (m_fails ?_)
  refine r_iret MM dX4_setCapital_20 ?_
  exact ret_S (h1 q2) (thr_thr S 0 1)
theorem m_giveNotice {z : Int} (hz : -2147483648 ≤ z ∧ z ≤ 2147483647) (hI : mI S) (hok : ∀ j : Nat, z = j → j < 10 → (j : Int) < S 11 0 9 → S 17 0 j = 0 → S 11 0 18 = -1 → Ret none (up3 (thr S 0) 17 0 j 1))
    (h1 : ¬ (0 ≤ z ∧ z < S 11 0 9) → Ret none (thr S 1)) (h2 : ∀ j : Nat, z = j → j < 10 → (j : Int) < S 11 0 9 → ¬ (S 17 0 j = 0 ∧ S 11 0 18 = -1) → Ret none (thr S 2)) : Cn g yX4_giveNotice cX4_giveNotice 2 none 2 43 0 [vR 11 0, vI z] S Ret Thr := by
  refine enter (L := [some (vR 11 0), some (vI z)]) (by decide +kernel) (Nat.le_of_ble_eq_true rfl) rfl (fun K MM => ?_)
  have M := MM.mk
  have hN := hI.1
  unfold mN at hN
  refine r_aload_n M dX4_giveNotice_0 rfl ?_
  refine r_iconst M dX4_giveNotice_1 ?_
  refine r_putI M dX4_giveNotice_2 pk_X4_65 (by decide) ?_
  refine r_aload_n M dX4_giveNotice_5 rfl ?_
  refine r_iload_n M dX4_giveNotice_6 rfl ?_
  refine r_callV1 MM dX4_giveNotice_7 ck_X4_86 vk_X4_isMember ⟨by omega, by omega, by omega⟩ ⟨by decide, by decide, rfl⟩ (by decide) (Nat.le_of_ble_eq_true rfl) (m_isMember (c := S 11 0 9) rfl hz hI.1.1 (fun j ej hj hjc => ?_) (fun hb => ?_))
  · refine r_if_ne M dX4_giveNotice_10 (tgt := 20) rfl (by omega) (fun b10 => ?_) (fun b10 => by omega)
    refine r_aload_n M dX4_giveNotice_20 rfl ?_
    refine r_getR M dX4_giveNotice_21 fk_X4_25 (by decide) rfl ?_
    refine r_iload_n M dX4_giveNotice_24 rfl ?_
    refine r_ialdV M (j) dX4_giveNotice_25 ⟨rfl, by decide⟩ (by decide) (by omega) (show (_ : Nat) < 10 by omega) (Nat.le_of_ble_eq_true rfl) (S 17 0 j) (by rfl) ?_
    refine r_if_ne M dX4_giveNotice_26 (tgt := 37) rfl (by have h9 := (hI.2.1 j hj).2.2.2.2.2.1; omega) (fun b26 => ?_) (fun b26 => ?_)
    · refine r_aload_n M dX4_giveNotice_37 rfl ?_
      refine r_iconst M dX4_giveNotice_38 ?_
      refine r_callV1 MM dX4_giveNotice_39 ck_X4_76 vk_X4_fails ⟨by omega, by omega, by omega⟩ ⟨by decide, by decide, rfl⟩ (by decide) (Nat.le_of_ble_eq_true rfl) (m_fails ?_)
      refine r_pop M dX4_giveNotice_42 ?_
      refine r_vret MM dX4_giveNotice_43 ?_
      exact ret_S (h2 j ej hj hjc (fun w => by omega)) (thr_thr S 0 2)
    refine r_aload_n M dX4_giveNotice_29 rfl ?_
    refine r_getV M dX4_giveNotice_30 fk_X4_46 (by decide) rfl (S 11 0 18) (by rfl) ?_
    refine r_iconst M dX4_giveNotice_33 ?_
    refine r_icmp_eq M dX4_giveNotice_34 (tgt := 44) rfl (by omega) (fun b34 => ?_) (fun b34 => ?_)
    · refine r_aload_n M dX4_giveNotice_44 rfl ?_
      refine r_getR M dX4_giveNotice_45 fk_X4_25 (by decide) rfl ?_
      refine r_iload_n M dX4_giveNotice_48 rfl ?_
      refine r_iconst M dX4_giveNotice_49 ?_
      refine r_iast M (j) dX4_giveNotice_50 ⟨rfl, by decide⟩ (by decide) (by omega) (show (_ : Nat) < 10 by omega) (Nat.le_of_ble_eq_true rfl) ?_
      refine r_vret MM dX4_giveNotice_51 ?_
      exact hok j ej hj hjc b26 b34
    refine r_aload_n M dX4_giveNotice_37 rfl ?_
    refine r_iconst M dX4_giveNotice_38 ?_
    refine r_callV1 MM dX4_giveNotice_39 ck_X4_76 vk_X4_fails ⟨by omega, by omega, by omega⟩ ⟨by decide, by decide, rfl⟩ (by decide) (Nat.le_of_ble_eq_true rfl) (m_fails ?_)
    refine r_pop M dX4_giveNotice_42 ?_
    refine r_vret MM dX4_giveNotice_43 ?_
    exact ret_S (h2 j ej hj hjc (fun w => by omega)) (thr_thr S 0 2)
  refine r_if_ne M dX4_giveNotice_10 (tgt := 20) rfl (by omega) (fun b10 => by omega) (fun b10 => ?_)
  refine r_aload_n M dX4_giveNotice_13 rfl ?_
  refine r_iconst M dX4_giveNotice_14 ?_
  refine r_callV1 MM dX4_giveNotice_15 ck_X4_76 vk_X4_fails ⟨by omega, by omega, by omega⟩ ⟨by decide, by decide, rfl⟩ (by decide) (Nat.le_of_ble_eq_true rfl) (m_fails ?_)
  refine r_pop M dX4_giveNotice_18 ?_
  refine r_vret MM dX4_giveNotice_19 ?_
  exact ret_S (h1 hb) (thr_thr S 0 1)
theorem m_bid {z zl v : Int} (hz : -2147483648 ≤ z ∧ z ≤ 2147483647) (hl : -2147483648 ≤ zl ∧ zl ≤ 2147483647) (hv : -2147483648 ≤ v ∧ v ≤ 2147483647) (hI : mI S)
    (hok : ∀ j l : Nat, z = j → zl = l → j < 10 → l < 120 → (j : Int) < S 11 0 9 → S 11 0 18 ≠ -1 → (l : Int) < S 11 0 19 → (-1000 ≤ v ∧ v ≤ 1000) → mact S j → S 24 0 (10 * l + j) = 5000 → Ret none (up3 (thr S 0) 24 0 (10 * l + j) v))
    (h1 : ¬ ((0 ≤ z ∧ z < S 11 0 9) ∧ S 11 0 18 ≠ -1 ∧ 0 ≤ zl ∧ zl < S 11 0 19) → Ret none (thr S 1)) (h2 : (0 ≤ z ∧ z < S 11 0 9) ∧ S 11 0 18 ≠ -1 ∧ (0 ≤ zl ∧ zl < S 11 0 19) → ¬ (-1000 ≤ v ∧ v ≤ 1000) → Ret none (thr S 2))
    (h3 : ∀ j l : Nat, z = j → zl = l → j < 10 → l < 120 → (j : Int) < S 11 0 9 → S 11 0 18 ≠ -1 → (l : Int) < S 11 0 19 → (-1000 ≤ v ∧ v ≤ 1000) → ¬ (mact S j ∧ S 24 0 (10 * l + j) = 5000) → Ret none (thr S 3)) : Cn g yX4_bid cX4_bid 4 none 2 43 0 [vR 11 0, vI z, vI zl, vI v] S Ret Thr := by
  refine enter (L := [some (vR 11 0), some (vI z), some (vI zl), some (vI v)]) (by decide +kernel) (Nat.le_of_ble_eq_true rfl) rfl (fun K MM => ?_)
  have M := MM.mk
  have hN := hI.1
  unfold mN at hN
  refine r_aload_n M dX4_bid_0 rfl ?_
  refine r_iconst M dX4_bid_1 ?_
  refine r_putI M dX4_bid_2 pk_X4_65 (by decide) ?_
  refine r_aload_n M dX4_bid_5 rfl ?_
  refine r_iload_n M dX4_bid_6 rfl ?_
  refine r_callV1 MM dX4_bid_7 ck_X4_86 vk_X4_isMember ⟨by omega, by omega, by omega⟩ ⟨by decide, by decide, rfl⟩ (by decide) (Nat.le_of_ble_eq_true rfl) (m_isMember (c := S 11 0 9) rfl hz hI.1.1 (fun j ej hj hjc => ?_) (fun hb => ?_))
  · refine r_if_eq M dX4_bid_10 (tgt := 35) rfl (by omega) (fun b10 => by omega) (fun b10 => ?_)
    refine r_aload_n M dX4_bid_13 rfl ?_
    refine r_getV M dX4_bid_14 fk_X4_46 (by decide) rfl (S 11 0 18) (by rfl) ?_
    refine r_iconst M dX4_bid_17 ?_
    refine r_icmp_eq M dX4_bid_18 (tgt := 35) rfl (by omega) (fun b18 => ?_) (fun b18 => ?_)
    · refine r_aload_n M dX4_bid_35 rfl ?_
      refine r_iconst M dX4_bid_36 ?_
      refine r_callV1 MM dX4_bid_37 ck_X4_76 vk_X4_fails ⟨by omega, by omega, by omega⟩ ⟨by decide, by decide, rfl⟩ (by decide) (Nat.le_of_ble_eq_true rfl) (m_fails ?_)
      refine r_pop M dX4_bid_40 ?_
      refine r_vret MM dX4_bid_41 ?_
      exact ret_S (h1 (by omega)) (thr_thr S 0 1)
    refine r_iload_n M dX4_bid_21 rfl ?_
    refine r_iconst M dX4_bid_22 ?_
    refine r_aload_n M dX4_bid_23 rfl ?_
    refine r_getV M dX4_bid_24 fk_X4_107 (by decide) rfl (S 11 0 19) (by rfl) ?_
    refine r_iconst M dX4_bid_27 ?_
    refine r_isub M dX4_bid_28 ?_
    refine r_callS3 MM dX4_bid_29 sl_X4_71 st_X4_in rfl ck_X4_71 ⟨by omega, by omega, by omega⟩ (Nat.le_of_ble_eq_true rfl) (m_in hl (by omega) (by omega) (fun q5 => ?_) (fun q5 => ?_))
    · refine r_if_ne M dX4_bid_32 (tgt := 42) rfl (by omega) (fun b32 => ?_) (fun b32 => by omega)
      refine r_iload_n M dX4_bid_42 rfl ?_
      refine r_sipush M dX4_bid_43 rfl ?_
      refine r_sipush M dX4_bid_46 rfl ?_
      refine r_callS3 MM dX4_bid_49 sl_X4_71 st_X4_in rfl ck_X4_71 ⟨by omega, by omega, by omega⟩ (Nat.le_of_ble_eq_true rfl) (m_in hv (by omega) (by omega) (fun q2 => ?_) (fun q2 => ?_))
      · refine r_if_ne M dX4_bid_52 (tgt := 62) rfl (by omega) (fun b52 => ?_) (fun b52 => by omega)
        refine r_aload_n M dX4_bid_62 rfl ?_
        refine r_iload_n M dX4_bid_63 rfl ?_
        refine r_callV1 MM dX4_bid_64 ck_X4_90 vk_X4_isActive ⟨by omega, by omega, by omega⟩ ⟨by decide, by decide, rfl⟩ (by decide) (Nat.le_of_ble_eq_true rfl) (m_isActive ej hj (v := S 17 0 j) rfl (by have h9 := (hI.2.1 j hj).2.2.2.2.2.1; omega) (fun q3 => ?_) (fun q3 => ?_))
        · refine r_if_eq M dX4_bid_67 (tgt := 87) rfl (by omega) (fun b67 => by omega) (fun b67 => ?_)
          refine r_aload_n M dX4_bid_70 rfl ?_
          refine r_getR M dX4_bid_71 fk_X4_50 (by decide) rfl ?_
          refine r_bipush M dX4_bid_74 rfl ?_
          refine r_iload_n M dX4_bid_76 rfl ?_
          refine r_imul M dX4_bid_77 ?_
          refine r_iload_n M dX4_bid_78 rfl ?_
          refine r_iadd M dX4_bid_79 ?_
          refine r_ialdV M ((10 * zl.toNat + j)) dX4_bid_80 ⟨rfl, by decide⟩ (by decide) (by omega) (show (_ : Nat) < 1200 by omega) (Nat.le_of_ble_eq_true rfl) (S 24 0 (10 * zl.toNat + j)) (by rfl) ?_
          refine r_sipush M dX4_bid_81 rfl ?_
          refine r_icmp_eq M dX4_bid_84 (tgt := 94) rfl (by have h9 := hI.2.2.2.1 (10 * zl.toNat + j) (by omega); omega) (fun b84 => ?_) (fun b84 => ?_)
          · refine r_aload_n M dX4_bid_94 rfl ?_
            refine r_getR M dX4_bid_95 fk_X4_50 (by decide) rfl ?_
            refine r_bipush M dX4_bid_98 rfl ?_
            refine r_iload_n M dX4_bid_100 rfl ?_
            refine r_imul M dX4_bid_101 ?_
            refine r_iload_n M dX4_bid_102 rfl ?_
            refine r_iadd M dX4_bid_103 ?_
            refine r_iload_n M dX4_bid_104 rfl ?_
            refine r_iast M ((10 * zl.toNat + j)) dX4_bid_105 ⟨rfl, by decide⟩ (by decide) (by omega) (show (_ : Nat) < 1200 by omega) (Nat.le_of_ble_eq_true rfl) ?_
            refine r_vret MM dX4_bid_106 ?_
            exact hok j zl.toNat ej (by omega) hj (by omega) hjc b18 (by omega) q2 q3 b84
          refine r_aload_n M dX4_bid_87 rfl ?_
          refine r_iconst M dX4_bid_88 ?_
          refine r_callV1 MM dX4_bid_89 ck_X4_76 vk_X4_fails ⟨by omega, by omega, by omega⟩ ⟨by decide, by decide, rfl⟩ (by decide) (Nat.le_of_ble_eq_true rfl) (m_fails ?_)
          refine r_pop M dX4_bid_92 ?_
          refine r_vret MM dX4_bid_93 ?_
          first | exact ret_S (h3 j zl.toNat ej (by omega) hj (by omega) hjc b18 (by omega) q2 (fun w => q3 w.1)) (thr_thr S 0 3) | exact ret_S (h3 j zl.toNat ej (by omega) hj (by omega) hjc b18 (by omega) q2 (fun w => b84 w.2)) (thr_thr S 0 3)
        refine r_if_eq M dX4_bid_67 (tgt := 87) rfl (by omega) (fun b67 => ?_) (fun b67 => by omega)
        refine r_aload_n M dX4_bid_87 rfl ?_
        refine r_iconst M dX4_bid_88 ?_
        refine r_callV1 MM dX4_bid_89 ck_X4_76 vk_X4_fails ⟨by omega, by omega, by omega⟩ ⟨by decide, by decide, rfl⟩ (by decide) (Nat.le_of_ble_eq_true rfl) (m_fails ?_)
        refine r_pop M dX4_bid_92 ?_
        refine r_vret MM dX4_bid_93 ?_
        first | exact ret_S (h3 j zl.toNat ej (by omega) hj (by omega) hjc b18 (by omega) q2 (fun w => q3 w.1)) (thr_thr S 0 3) | exact ret_S (h3 j zl.toNat ej (by omega) hj (by omega) hjc b18 (by omega) q2 (fun w => b84 w.2)) (thr_thr S 0 3)
      refine r_if_ne M dX4_bid_52 (tgt := 62) rfl (by omega) (fun b52 => by omega) (fun b52 => ?_)
      refine r_aload_n M dX4_bid_55 rfl ?_
      refine r_iconst M dX4_bid_56 ?_
      refine r_callV1 MM dX4_bid_57 ck_X4_76 vk_X4_fails ⟨by omega, by omega, by omega⟩ ⟨by decide, by decide, rfl⟩ (by decide) (Nat.le_of_ble_eq_true rfl) (m_fails ?_)
      refine r_pop M dX4_bid_60 ?_
      refine r_vret MM dX4_bid_61 ?_
      exact ret_S (h2 (by omega) q2) (thr_thr S 0 2)
    refine r_if_ne M dX4_bid_32 (tgt := 42) rfl (by omega) (fun b32 => by omega) (fun b32 => ?_)
    refine r_aload_n M dX4_bid_35 rfl ?_
    refine r_iconst M dX4_bid_36 ?_
    refine r_callV1 MM dX4_bid_37 ck_X4_76 vk_X4_fails ⟨by omega, by omega, by omega⟩ ⟨by decide, by decide, rfl⟩ (by decide) (Nat.le_of_ble_eq_true rfl) (m_fails ?_)
    refine r_pop M dX4_bid_40 ?_
    refine r_vret MM dX4_bid_41 ?_
    exact ret_S (h1 (by omega)) (thr_thr S 0 1)
  refine r_if_eq M dX4_bid_10 (tgt := 35) rfl (by omega) (fun b10 => ?_) (fun b10 => by omega)
  refine r_aload_n M dX4_bid_35 rfl ?_
  refine r_iconst M dX4_bid_36 ?_
  refine r_callV1 MM dX4_bid_37 ck_X4_76 vk_X4_fails ⟨by omega, by omega, by omega⟩ ⟨by decide, by decide, rfl⟩ (by decide) (Nat.le_of_ble_eq_true rfl) (m_fails ?_)
  refine r_pop M dX4_bid_40 ?_
  refine r_vret MM dX4_bid_41 ?_
  exact ret_S (h1 (by omega)) (thr_thr S 0 1)
theorem m_newOwner {lots : Int} (hl : 0 ≤ lots ∧ lots ≤ 20) (hm : 0 ≤ S 11 0 9 ∧ S 11 0 9 ≤ 10) (hc : 0 ≤ S 11 0 14 ∧ S 11 0 14 ≤ 1000) (hR : mR S) (hO : mO S) (h : Ret (some (vI (ownN S lots (nM S)))) S) : Cn g yX4_newOwner cX4_newOwner 3 (some .int) 2 44 0 [vR 11 0, vI lots] S Ret Thr := by
  refine enter (L := [some (vR 11 0), some (vI lots), none]) (by decide +kernel) (Nat.le_of_ble_eq_true rfl) rfl (fun K MM => ?_)
  have M := MM.mk
  have hme : ((nM S : Nat) : Int) = S 11 0 9 := by unfold nM; omega
  have hnc : nC S ≤ 1000 := by unfold nC; omega
  refine r_iconst M dX4_newOwner_0 ?_
  refine r_istore_2 M dX4_newOwner_1 (by decide) rfl ?_
  refine fz (P := fun l => (∀ i, i < l → ¬ (mact S i ∧ lots ≤ romM S i)) → K 0 2 [some (vR 11 0), some (vI lots), some (vI (l : Int))] [] S) (m := nM S) ?_ ?_ (fun i hi => by omega)
  · intro hno
    refine r_iload_n M dX4_newOwner_2 rfl ?_
    refine r_aload_n M dX4_newOwner_3 rfl ?_
    refine r_getI M dX4_newOwner_4 fk_X4_68 (by decide) rfl ?_
    refine r_icmp_ge M dX4_newOwner_7 (tgt := 35) rfl (by omega) (fun b7 => ?_) (fun b7 => by omega)
    refine r_iconst M dX4_newOwner_35 ?_
    refine r_iret MM dX4_newOwner_36 ?_
    exact ret_v h (by rw [ownN_no _ hno])
  · intro l hl9 hP hno
    have hr := hR l (by omega)
    have hlm := lotM_rng hO l (nC S) hnc
    have hrm : romM S l = S 14 0 l - lotM S l (nC S) := rfl
    have hnext : ¬ (mact S l ∧ lots ≤ romM S l) → ∀ i, i < l + 1 → ¬ (mact S i ∧ lots ≤ romM S i) := fun q i hi => by
      by_cases e : i = l
      · subst e; exact q
      · exact hno i (by omega)
    refine r_iload_n M dX4_newOwner_2 rfl ?_
    refine r_aload_n M dX4_newOwner_3 rfl ?_
    refine r_getI M dX4_newOwner_4 fk_X4_68 (by decide) rfl ?_
    refine r_icmp_ge M dX4_newOwner_7 (tgt := 35) rfl (by omega) (fun b7 => by omega) (fun b7 => ?_)
    refine r_aload_n M dX4_newOwner_10 rfl ?_
    refine r_iload_n M dX4_newOwner_11 rfl ?_
    refine r_callV1 MM dX4_newOwner_12 ck_X4_90 vk_X4_isActive ⟨by omega, by omega, by omega⟩ ⟨by decide, by decide, rfl⟩ (by decide) (Nat.le_of_ble_eq_true rfl) (m_isActive rfl (by omega) (v := S 17 0 l) rfl (by omega) (fun hq => ?_) (fun hq => ?_))
    · refine r_if_eq M dX4_newOwner_15 (tgt := 29) rfl (by omega) (fun b15 => by omega) (fun b15 => ?_)
      refine r_aload_n M dX4_newOwner_18 rfl ?_
      refine r_iload_n M dX4_newOwner_19 rfl ?_
      refine r_callV1 MM dX4_newOwner_20 ck_X4_93 vk_X4_roomOf ⟨by omega, by omega, by omega⟩ ⟨by decide, by decide, rfl⟩ (by decide) (Nat.le_of_ble_eq_true rfl) (m_roomOf rfl (by omega) hc hO ?_)
      refine r_iload_n M dX4_newOwner_23 rfl ?_
      refine r_icmp_lt M dX4_newOwner_24 (tgt := 29) rfl (by omega) (fun b24 => ?_) (fun b24 => ?_)
      · refine r_iinc_2 M (_) dX4_newOwner_29 rfl (by decide) rfl ?_
        refine r_goto M dX4_newOwner_32 (tgt := 2) rfl ?_
        first | exact hP (hnext (fun q => hq q.1)) | exact hP (hnext (fun q => by have := q.2; omega))
      refine r_iload_n M dX4_newOwner_27 rfl ?_
      refine r_iret MM dX4_newOwner_28 ?_
      exact ret_v h (by rw [ownN_first ⟨hq, b24⟩ hno _ hl9])
    refine r_if_eq M dX4_newOwner_15 (tgt := 29) rfl (by omega) (fun b15 => ?_) (fun b15 => by omega)
    refine r_iinc_2 M (_) dX4_newOwner_29 rfl (by decide) rfl ?_
    refine r_goto M dX4_newOwner_32 (tgt := 2) rfl ?_
    first | exact hP (hnext (fun q => hq q.1)) | exact hP (hnext (fun q => by have := q.2; omega))
theorem m_firstOf {z : Int} (hz : -2147483648 ≤ z ∧ z ≤ 2147483647) (hc : 0 ≤ S 11 0 14 ∧ S 11 0 14 ≤ 1000) (hO : mO S) (h : Ret (some (vI (foN S z (nC S)))) S) : Cn g yX4_firstOf cX4_firstOf 4 (some .int) 0 0 0 [vR 11 0, vI z] S Ret Thr := by
  refine enter (L := [some (vR 11 0), some (vI z), none, none]) (by decide +kernel) (Nat.le_of_ble_eq_true rfl) rfl (fun K MM => ?_)
  have M := MM.mk
  have hnc : ((nC S : Nat) : Int) = S 11 0 14 := by unfold nC; omega
  refine r_iconst M dX4_firstOf_0 ?_
  refine r_istore_2 M dX4_firstOf_1 (by decide) rfl ?_
  refine r_iconst M dX4_firstOf_2 ?_
  refine r_istore_3 M dX4_firstOf_3 (by decide) rfl ?_
  refine fz (P := fun l => K 0 4 [some (vR 11 0), some (vI z), some (vI (foN S z l)), some (vI (l : Int))] [] S) (m := nC S) ?_ ?_
  · refine r_iload_n M dX4_firstOf_4 rfl ?_
    refine r_aload_n M dX4_firstOf_5 rfl ?_
    refine r_getI M dX4_firstOf_6 fk_X4_80 (by decide) rfl ?_
    refine r_icmp_ge M dX4_firstOf_9 (tgt := 50) rfl (by omega) (fun b9 => ?_) (fun b9 => by omega)
    refine r_iload_n M dX4_firstOf_50 rfl ?_
    refine r_iret MM dX4_firstOf_51 ?_
    exact h
  · intro l hl hP
    have ho := hO l (by omega)
    have hf := foN_rng S z l
    have hfr : foN S z l = -1 ∨ 0 ≤ foN S z l ∧ foN S z l < l := by
      rcases hf with hf | ⟨j, e, hj, _⟩
      · exact Or.inl hf.1
      · exact Or.inr (by omega)
    have ho2 : 0 ≤ foN S z l → 0 ≤ S 23 0 (foN S z l).toNat ∧ S 23 0 (foN S z l).toNat ≤ 1000000 := fun q => (hO _ (by omega)).2.2
    have e : foN S z (l + 1) = if S 21 0 l = z ∧ (foN S z l = -1 ∨ S 23 0 l < S 23 0 (foN S z l).toNat) then (l : Int) else foN S z l := rfl
    rw [e] at hP
    refine r_iload_n M dX4_firstOf_4 rfl ?_
    refine r_aload_n M dX4_firstOf_5 rfl ?_
    refine r_getI M dX4_firstOf_6 fk_X4_80 (by decide) rfl ?_
    refine r_icmp_ge M dX4_firstOf_9 (tgt := 50) rfl (by omega) (fun b9 => by omega) (fun b9 => ?_)
    refine r_aload_n M dX4_firstOf_12 rfl ?_
    refine r_getR M dX4_firstOf_13 fk_X4_37 (by decide) rfl ?_
    refine r_iload_n M dX4_firstOf_16 rfl ?_
    refine r_iald M (_) dX4_firstOf_17 ⟨rfl, by decide⟩ (by decide) rfl (show (_ : Nat) < 1000 by omega) (Nat.le_of_ble_eq_true rfl) ?_
    refine r_iload_n M dX4_firstOf_18 rfl ?_
    refine r_icmp_ne M dX4_firstOf_19 (tgt := 44) rfl (by omega) (fun b19 => ?_) (fun b19 => ?_)
    · refine r_iinc_3 M (_) dX4_firstOf_44 rfl (by decide) rfl ?_
      refine r_goto M dX4_firstOf_47 (tgt := 4) rfl ?_
      first | (rw [if_pos ⟨b19, by omega⟩] at hP; exact hP) | (rw [if_neg (fun w => b19 w.1)] at hP; exact hP) | (rw [if_neg (fun w => by have := w.2; omega)] at hP; exact hP)
    refine r_iload_n M dX4_firstOf_22 rfl ?_
    refine r_iconst M dX4_firstOf_23 ?_
    refine r_icmp_eq M dX4_firstOf_24 (tgt := 42) rfl (by omega) (fun b24 => ?_) (fun b24 => ?_)
    · refine r_iload_n M dX4_firstOf_42 rfl ?_
      refine r_istore_2 M dX4_firstOf_43 (by decide) rfl ?_
      refine r_iinc_3 M (_) dX4_firstOf_44 rfl (by decide) rfl ?_
      refine r_goto M dX4_firstOf_47 (tgt := 4) rfl ?_
      first | (rw [if_pos ⟨b19, by omega⟩] at hP; exact hP) | (rw [if_neg (fun w => b19 w.1)] at hP; exact hP) | (rw [if_neg (fun w => by have := w.2; omega)] at hP; exact hP)
    refine r_aload_n M dX4_firstOf_27 rfl ?_
    refine r_getR M dX4_firstOf_28 fk_X4_43 (by decide) rfl ?_
    refine r_iload_n M dX4_firstOf_31 rfl ?_
    refine r_iald M (_) dX4_firstOf_32 ⟨rfl, by decide⟩ (by decide) rfl (show (_ : Nat) < 1000 by omega) (Nat.le_of_ble_eq_true rfl) ?_
    refine r_aload_n M dX4_firstOf_33 rfl ?_
    refine r_getR M dX4_firstOf_34 fk_X4_43 (by decide) rfl ?_
    refine r_iload_n M dX4_firstOf_37 rfl ?_
    refine r_iald M ((foN S z l).toNat) dX4_firstOf_38 ⟨rfl, by decide⟩ (by decide) (by omega) (show (_ : Nat) < 1000 by omega) (Nat.le_of_ble_eq_true rfl) ?_
    refine r_icmp_ge M dX4_firstOf_39 (tgt := 44) rfl (by omega) (fun b39 => ?_) (fun b39 => ?_)
    · refine r_iinc_3 M (_) dX4_firstOf_44 rfl (by decide) rfl ?_
      refine r_goto M dX4_firstOf_47 (tgt := 4) rfl ?_
      first | (rw [if_pos ⟨b19, by omega⟩] at hP; exact hP) | (rw [if_neg (fun w => b19 w.1)] at hP; exact hP) | (rw [if_neg (fun w => by have := w.2; omega)] at hP; exact hP)
    refine r_iload_n M dX4_firstOf_42 rfl ?_
    refine r_istore_2 M dX4_firstOf_43 (by decide) rfl ?_
    refine r_iinc_3 M (_) dX4_firstOf_44 rfl (by decide) rfl ?_
    refine r_goto M dX4_firstOf_47 (tgt := 4) rfl ?_
    first | (rw [if_pos ⟨b19, by omega⟩] at hP; exact hP) | (rw [if_neg (fun w => b19 w.1)] at hP; exact hP) | (rw [if_neg (fun w => by have := w.2; omega)] at hP; exact hP)
theorem m_winner {lot : Nat} (hl : lot < 120) (hm : 0 ≤ S 11 0 9 ∧ S 11 0 9 ≤ 10) (hB : mB S) (h : Ret (some (vI (wmr S lot))) S) : Cn g yX4_winner cX4_winner 5 (some .int) 0 0 0 [vR 11 0, vI (lot : Int)] S Ret Thr := by
  refine enter (L := [some (vR 11 0), some (vI (lot : Int)), none, none, none]) (by decide +kernel) (Nat.le_of_ble_eq_true rfl) rfl (fun K MM => ?_)
  have M := MM.mk
  have hme : ((nM S : Nat) : Int) = S 11 0 9 := by unfold nM; omega
  refine r_iconst M dX4_winner_0 ?_
  refine r_istore_2 M dX4_winner_1 (by decide) rfl ?_
  refine r_iconst M dX4_winner_2 ?_
  refine r_istore_3 M dX4_winner_3 (by decide) rfl ?_
  refine fz (P := fun l => ∀ c4, K 0 4 [some (vR 11 0), some (vI (lot : Int)), some (vI (wmN S lot l)), some (vI (l : Int)), c4] [] S) (m := nM S) ?_ ?_ _
  · intro c4
    refine r_iload_n M dX4_winner_4 rfl ?_
    refine r_aload_n M dX4_winner_5 rfl ?_
    refine r_getI M dX4_winner_6 fk_X4_68 (by decide) rfl ?_
    refine r_icmp_ge M dX4_winner_9 (tgt := 62) rfl (by omega) (fun b9 => ?_) (fun b9 => by omega)
    refine r_iload_n M dX4_winner_62 rfl ?_
    refine r_iret MM dX4_winner_63 ?_
    exact h
  · intro l hl9 hP c4
    have hb := hB (10 * lot + l) (by omega)
    have hf := wmN_rng S lot l
    have hb2 : 0 ≤ wmN S lot l → -1000 ≤ S 24 0 (10 * lot + (wmN S lot l).toNat) ∧ S 24 0 (10 * lot + (wmN S lot l).toNat) ≤ 5000 := fun q => hB _ (by omega)
    rw [wmN_succ] at hP
    refine r_iload_n M dX4_winner_4 rfl ?_
    refine r_aload_n M dX4_winner_5 rfl ?_
    refine r_getI M dX4_winner_6 fk_X4_68 (by decide) rfl ?_
    refine r_icmp_ge M dX4_winner_9 (tgt := 62) rfl (by omega) (fun b9 => by omega) (fun b9 => ?_)
    refine r_aload_n M dX4_winner_12 rfl ?_
    refine r_getR M dX4_winner_13 fk_X4_50 (by decide) rfl ?_
    refine r_bipush M dX4_winner_16 rfl ?_
    refine r_iload_n M dX4_winner_18 rfl ?_
    refine r_imul M dX4_winner_19 ?_
    refine r_iload_n M dX4_winner_20 rfl ?_
    refine r_iadd M dX4_winner_21 ?_
    refine r_iald M ((10 * lot + l)) dX4_winner_22 ⟨rfl, by decide⟩ (by decide) (by omega) (show (_ : Nat) < 1200 by omega) (Nat.le_of_ble_eq_true rfl) ?_
    refine r_istore_4 M dX4_winner_23 (by decide) rfl ?_
    refine r_iload M dX4_winner_25 rfl ?_
    refine r_sipush M dX4_winner_27 rfl ?_
    refine r_icmp_eq M dX4_winner_30 (tgt := 56) rfl (by omega) (fun b30 => ?_) (fun b30 => ?_)
    · refine r_iinc_3 M (_) dX4_winner_56 rfl (by decide) rfl ?_
      refine r_goto M dX4_winner_59 (tgt := 4) rfl ?_
      first | (rw [if_pos (show S 24 0 (10 * lot + l) ≠ 5000 ∧ (wmN S lot l = -1 ∨ S 24 0 (10 * lot + (wmN S lot l).toNat) < S 24 0 (10 * lot + l)) by omega)] at hP; exact hP _) | (rw [if_neg (show ¬ (S 24 0 (10 * lot + l) ≠ 5000 ∧ (wmN S lot l = -1 ∨ S 24 0 (10 * lot + (wmN S lot l).toNat) < S 24 0 (10 * lot + l))) by omega)] at hP; exact hP _)
    refine r_iload_n M dX4_winner_33 rfl ?_
    refine r_iconst M dX4_winner_34 ?_
    refine r_icmp_eq M dX4_winner_35 (tgt := 54) rfl (by omega) (fun b35 => ?_) (fun b35 => ?_)
    · refine r_iload_n M dX4_winner_54 rfl ?_
      refine r_istore_2 M dX4_winner_55 (by decide) rfl ?_
      refine r_iinc_3 M (_) dX4_winner_56 rfl (by decide) rfl ?_
      refine r_goto M dX4_winner_59 (tgt := 4) rfl ?_
      first | (rw [if_pos (show S 24 0 (10 * lot + l) ≠ 5000 ∧ (wmN S lot l = -1 ∨ S 24 0 (10 * lot + (wmN S lot l).toNat) < S 24 0 (10 * lot + l)) by omega)] at hP; exact hP _) | (rw [if_neg (show ¬ (S 24 0 (10 * lot + l) ≠ 5000 ∧ (wmN S lot l = -1 ∨ S 24 0 (10 * lot + (wmN S lot l).toNat) < S 24 0 (10 * lot + l))) by omega)] at hP; exact hP _)
    refine r_iload M dX4_winner_38 rfl ?_
    refine r_aload_n M dX4_winner_40 rfl ?_
    refine r_getR M dX4_winner_41 fk_X4_50 (by decide) rfl ?_
    refine r_bipush M dX4_winner_44 rfl ?_
    refine r_iload_n M dX4_winner_46 rfl ?_
    refine r_imul M dX4_winner_47 ?_
    refine r_iload_n M dX4_winner_48 rfl ?_
    refine r_iadd M dX4_winner_49 ?_
    refine r_iald M ((10 * lot + (wmN S lot l).toNat)) dX4_winner_50 ⟨rfl, by decide⟩ (by decide) (by omega) (show (_ : Nat) < 1200 by omega) (Nat.le_of_ble_eq_true rfl) ?_
    refine r_icmp_le M dX4_winner_51 (tgt := 56) rfl (by omega) (fun b51 => ?_) (fun b51 => ?_)
    · refine r_iinc_3 M (_) dX4_winner_56 rfl (by decide) rfl ?_
      refine r_goto M dX4_winner_59 (tgt := 4) rfl ?_
      first | (rw [if_pos (show S 24 0 (10 * lot + l) ≠ 5000 ∧ (wmN S lot l = -1 ∨ S 24 0 (10 * lot + (wmN S lot l).toNat) < S 24 0 (10 * lot + l)) by omega)] at hP; exact hP _) | (rw [if_neg (show ¬ (S 24 0 (10 * lot + l) ≠ 5000 ∧ (wmN S lot l = -1 ∨ S 24 0 (10 * lot + (wmN S lot l).toNat) < S 24 0 (10 * lot + l))) by omega)] at hP; exact hP _)
    refine r_iload_n M dX4_winner_54 rfl ?_
    refine r_istore_2 M dX4_winner_55 (by decide) rfl ?_
    refine r_iinc_3 M (_) dX4_winner_56 rfl (by decide) rfl ?_
    refine r_goto M dX4_winner_59 (tgt := 4) rfl ?_
    first | (rw [if_pos (show S 24 0 (10 * lot + l) ≠ 5000 ∧ (wmN S lot l = -1 ∨ S 24 0 (10 * lot + (wmN S lot l).toNat) < S 24 0 (10 * lot + l)) by omega)] at hP; exact hP _) | (rw [if_neg (show ¬ (S 24 0 (10 * lot + l) ≠ 5000 ∧ (wmN S lot l = -1 ∨ S 24 0 (10 * lot + (wmN S lot l).toNat) < S 24 0 (10 * lot + l))) by omega)] at hP; exact hP _)
theorem m_rank {i : Nat} (hi : i < nM S) (hm : 0 ≤ S 11 0 9 ∧ S 11 0 9 ≤ 10) (hk : 0 ≤ S 11 0 19 ∧ S 11 0 19 ≤ 120) (hB : mB S) (h : Ret none (up3 S 18 0 i (mpV S i))) : Cn g yX4_rank cX4_rank 6 none 1 24 0 [vR 11 0, vI (i : Int)] S Ret Thr := by
  refine enter (L := [some (vR 11 0), some (vI (i : Int)), none, none, none, none]) (by decide +kernel) (Nat.le_of_ble_eq_true rfl) rfl (fun K MM => ?_)
  have M := MM.mk
  have hme : ((nM S : Nat) : Int) = S 11 0 9 := by unfold nM; omega
  have hbe : ((nB S : Nat) : Int) = S 11 0 19 := by unfold nB; omega
  refine r_iconst M dX4_rank_0 ?_
  refine r_istore_2 M dX4_rank_1 (by decide) rfl ?_
  refine r_iconst M dX4_rank_2 ?_
  refine r_istore_3 M dX4_rank_3 (by decide) rfl ?_
  refine r_iconst M dX4_rank_4 ?_
  refine r_istore_4 M dX4_rank_5 (by decide) rfl ?_
  refine fz (P := fun l => ∀ c5, K 0 7 [some (vR 11 0), some (vI (i : Int)), some (vI (tdN S i l)), some (vI (loN S i l)), some (vI (l : Int)), c5] [] S) (m := nB S) ?_ ?_ _
  · intro c5
    have t1 := tdN_rng S i (nB S)
    have t2 := loN_rng S i (nB S)
    refine r_iload M dX4_rank_7 rfl ?_
    refine r_aload_n M dX4_rank_9 rfl ?_
    refine r_getI M dX4_rank_10 fk_X4_107 (by decide) rfl ?_
    refine r_icmp_ge M dX4_rank_13 (tgt := 80) rfl (by omega) (fun b13 => ?_) (fun b13 => by omega)
    refine r_aload_n M dX4_rank_80 rfl ?_
    refine r_getR M dX4_rank_81 fk_X4_28 (by decide) rfl ?_
    refine r_iload_n M dX4_rank_84 rfl ?_
    refine r_iconst M dX4_rank_85 ?_
    refine r_iload_n M dX4_rank_86 rfl ?_
    refine r_imul M dX4_rank_87 ?_
    refine r_aload_n M dX4_rank_88 rfl ?_
    refine r_getI M dX4_rank_89 fk_X4_107 (by decide) rfl ?_
    refine r_icmp_lt M dX4_rank_92 (tgt := 102) rfl (by omega) (fun b92 => ?_) (fun b92 => ?_)
    · refine r_iconst M dX4_rank_102 ?_
      refine r_goto M dX4_rank_103 (tgt := 107) rfl ?_
      refine r_iast M (_) dX4_rank_107 ⟨rfl, by decide⟩ (by decide) rfl (show (_ : Nat) < 10 by omega) (Nat.le_of_ble_eq_true rfl) ?_
      refine r_vret MM dX4_rank_108 ?_
      first | exact ret_S h (by unfold mpV; rw [if_pos (by unfold mpoor; omega)]) | exact ret_S h (by unfold mpV; rw [if_neg (by unfold mpoor; omega)])
    refine r_iconst M dX4_rank_95 ?_
    refine r_iload_n M dX4_rank_96 rfl ?_
    refine r_imul M dX4_rank_97 ?_
    refine r_iload_n M dX4_rank_98 rfl ?_
    refine r_icmp_le M dX4_rank_99 (tgt := 106) rfl (by omega) (fun b99 => ?_) (fun b99 => ?_)
    · refine r_iconst M dX4_rank_106 ?_
      refine r_iast M (_) dX4_rank_107 ⟨rfl, by decide⟩ (by decide) rfl (show (_ : Nat) < 10 by omega) (Nat.le_of_ble_eq_true rfl) ?_
      refine r_vret MM dX4_rank_108 ?_
      first | exact ret_S h (by unfold mpV; rw [if_pos (by unfold mpoor; omega)]) | exact ret_S h (by unfold mpV; rw [if_neg (by unfold mpoor; omega)])
    refine r_iconst M dX4_rank_102 ?_
    refine r_goto M dX4_rank_103 (tgt := 107) rfl ?_
    refine r_iast M (_) dX4_rank_107 ⟨rfl, by decide⟩ (by decide) rfl (show (_ : Nat) < 10 by omega) (Nat.le_of_ble_eq_true rfl) ?_
    refine r_vret MM dX4_rank_108 ?_
    first | exact ret_S h (by unfold mpV; rw [if_pos (by unfold mpoor; omega)]) | exact ret_S h (by unfold mpV; rw [if_neg (by unfold mpoor; omega)])
  · intro l hl hP c5
    have t1 := tdN_rng S i l
    have t2 := loN_rng S i l
    have hb := hB (10 * l + i) (by omega)
    have hf := wmN_rng S l (nM S)
    have hw : S 24 0 (10 * l + i) ≠ 5000 → 0 ≤ wmr S l ∧ wmr S l < 10 := fun q => by
      rcases hf with hf | hf
      · exact absurd (hf.2 i hi) q
      · unfold wmr; omega
    have hb2 : 0 ≤ wmr S l ∧ wmr S l < 10 → -1000 ≤ S 24 0 (10 * l + (wmr S l).toNat) ∧ S 24 0 (10 * l + (wmr S l).toNat) ≤ 5000 := fun q => hB _ (by omega)
    refine r_iload M dX4_rank_7 rfl ?_
    refine r_aload_n M dX4_rank_9 rfl ?_
    refine r_getI M dX4_rank_10 fk_X4_107 (by decide) rfl ?_
    refine r_icmp_ge M dX4_rank_13 (tgt := 80) rfl (by omega) (fun b13 => by omega) (fun b13 => ?_)
    refine r_aload_n M dX4_rank_16 rfl ?_
    refine r_getR M dX4_rank_17 fk_X4_50 (by decide) rfl ?_
    refine r_bipush M dX4_rank_20 rfl ?_
    refine r_iload M dX4_rank_22 rfl ?_
    refine r_imul M dX4_rank_24 ?_
    refine r_iload_n M dX4_rank_25 rfl ?_
    refine r_iadd M dX4_rank_26 ?_
    refine r_iald M ((10 * l + i)) dX4_rank_27 ⟨rfl, by decide⟩ (by decide) (by omega) (show (_ : Nat) < 1200 by omega) (Nat.le_of_ble_eq_true rfl) ?_
    refine r_istore_5 M dX4_rank_28 (by decide) rfl ?_
    refine r_iload M dX4_rank_30 rfl ?_
    refine r_sipush M dX4_rank_32 rfl ?_
    refine r_icmp_eq M dX4_rank_35 (tgt := 74) rfl (by omega) (fun b35 => ?_) (fun b35 => ?_)
    · refine r_iinc_4 M (_) dX4_rank_74 rfl (by decide) rfl ?_
      refine r_goto M dX4_rank_77 (tgt := 7) rfl ?_
      first | (simp only [tdN, loN, if_neg (show ¬ S 24 0 (10 * l + i) ≠ 5000 from fun q => q b35)] at hP; exact hP _) | (simp only [tdN, loN, if_pos b35, if_pos (show loW S i l by omega)] at hP; exact hP _) | (simp only [tdN, loN, if_pos b35, if_neg (show ¬ loW S i l by omega)] at hP; exact hP _)
    refine r_iinc_2 M (_) dX4_rank_38 rfl (by decide) rfl ?_
    refine r_iload_n M dX4_rank_41 rfl ?_
    refine r_aload_n M dX4_rank_42 rfl ?_
    refine r_getR M dX4_rank_43 fk_X4_50 (by decide) rfl ?_
    refine r_bipush M dX4_rank_46 rfl ?_
    refine r_iload M dX4_rank_48 rfl ?_
    refine r_imul M dX4_rank_50 ?_
    refine r_aload_n M dX4_rank_51 rfl ?_
    refine r_iload M dX4_rank_52 rfl ?_
    refine r_callV1 MM dX4_rank_54 ck_X4_116 vk_X4_winner ⟨by omega, by omega, by omega⟩ ⟨by decide, by decide, rfl⟩ (by decide) (Nat.le_of_ble_eq_true rfl) (m_winner (by omega) hm hB ?_)
    refine r_iadd M dX4_rank_57 ?_
    refine r_iald M ((10 * l + (wmr S l).toNat)) dX4_rank_58 ⟨rfl, by decide⟩ (by decide) (by omega) (show (_ : Nat) < 1200 by omega) (Nat.le_of_ble_eq_true rfl) ?_
    refine r_iload M dX4_rank_59 rfl ?_
    refine r_isub M dX4_rank_61 ?_
    refine r_bipush M dX4_rank_62 rfl ?_
    refine r_icmp_le M dX4_rank_64 (tgt := 71) rfl (by omega) (fun b64 => ?_) (fun b64 => ?_)
    · refine r_iconst M dX4_rank_71 ?_
      refine r_iadd M dX4_rank_72 ?_
      refine r_istore_3 M dX4_rank_73 (by decide) rfl ?_
      refine r_iinc_4 M (_) dX4_rank_74 rfl (by decide) rfl ?_
      refine r_goto M dX4_rank_77 (tgt := 7) rfl ?_
      first | (simp only [tdN, loN, if_neg (show ¬ S 24 0 (10 * l + i) ≠ 5000 from fun q => q b35)] at hP; exact hP _) | (simp only [tdN, loN, if_pos b35, if_pos (show loW S i l by omega)] at hP; exact hP _) | (simp only [tdN, loN, if_pos b35, if_neg (show ¬ loW S i l by omega)] at hP; exact hP _)
    refine r_iconst M dX4_rank_67 ?_
    refine r_goto M dX4_rank_68 (tgt := 72) rfl ?_
    refine r_iadd M dX4_rank_72 ?_
    refine r_istore_3 M dX4_rank_73 (by decide) rfl ?_
    refine r_iinc_4 M (_) dX4_rank_74 rfl (by decide) rfl ?_
    refine r_goto M dX4_rank_77 (tgt := 7) rfl ?_
    first | (simp only [tdN, loN, if_neg (show ¬ S 24 0 (10 * l + i) ≠ 5000 from fun q => q b35)] at hP; exact hP _) | (simp only [tdN, loN, if_pos b35, if_pos (show loW S i l by omega)] at hP; exact hP _) | (simp only [tdN, loN, if_pos b35, if_neg (show ¬ loW S i l by omega)] at hP; exact hP _)
theorem m_empty {i : Nat} {z x : Int} (ez : z = i) (hi : i < 10) (hc : 0 ≤ S 11 0 14 ∧ S 11 0 14 ≤ 1000) (hO : mO S) (h : Ret none (emM S i x)) : Cn g yX4_empty cX4_empty 4 none 0 0 0 [vR 11 0, vI z, vI x] S Ret Thr := by
  subst ez
  refine enter (L := [some (vR 11 0), some (vI (i : Int)), some (vI x), none]) (by decide +kernel) (Nat.le_of_ble_eq_true rfl) rfl (fun K MM => ?_)
  have M := MM.mk
  have hnc : ((nC S : Nat) : Int) = S 11 0 14 := by unfold nC; omega
  refine r_aload_n M dX4_empty_0 rfl ?_
  refine r_getR M dX4_empty_1 fk_X4_25 (by decide) rfl ?_
  refine r_iload_n M dX4_empty_4 rfl ?_
  refine r_iload_n M dX4_empty_5 rfl ?_
  refine r_iast M (_) dX4_empty_6 ⟨rfl, by decide⟩ (by decide) rfl (show (_ : Nat) < 10 by omega) (Nat.le_of_ble_eq_true rfl) ?_
  refine r_aload_n M dX4_empty_7 rfl ?_
  refine r_getR M dX4_empty_8 fk_X4_7 (by decide) rfl ?_
  refine r_iload_n M dX4_empty_11 rfl ?_
  refine r_iconst M dX4_empty_12 ?_
  refine r_iast M (_) dX4_empty_13 ⟨rfl, by decide⟩ (by decide) rfl (show (_ : Nat) < 10 by omega) (Nat.le_of_ble_eq_true rfl) ?_
  refine r_aload_n M dX4_empty_14 rfl ?_
  refine r_getR M dX4_empty_15 fk_X4_13 (by decide) rfl ?_
  refine r_iload_n M dX4_empty_18 rfl ?_
  refine r_iconst M dX4_empty_19 ?_
  refine r_iast M (_) dX4_empty_20 ⟨rfl, by decide⟩ (by decide) rfl (show (_ : Nat) < 10 by omega) (Nat.le_of_ble_eq_true rfl) ?_
  refine r_aload_n M dX4_empty_21 rfl ?_
  refine r_getR M dX4_empty_22 fk_X4_19 (by decide) rfl ?_
  refine r_iload_n M dX4_empty_25 rfl ?_
  refine r_iconst M dX4_empty_26 ?_
  refine r_iast M (_) dX4_empty_27 ⟨rfl, by decide⟩ (by decide) rfl (show (_ : Nat) < 10 by omega) (Nat.le_of_ble_eq_true rfl) ?_
  refine r_iconst M dX4_empty_28 ?_
  refine r_istore_3 M dX4_empty_29 (by decide) rfl ?_
  refine k_S (S1 := owS (em0 S i x) i 0) ?_ (owS_0 _ _).symm
  refine fz (P := fun l => K 0 30 [some (vR 11 0), some (vI (i : Int)), some (vI x), some (vI (l : Int))] [] (owS (em0 S i x) i l)) (m := nC S) ?_ ?_
  · refine r_iload_n M dX4_empty_30 rfl ?_
    refine r_aload_n M dX4_empty_31 rfl ?_
    refine r_getV M dX4_empty_32 fk_X4_80 (by decide) rfl (S 11 0 14) (by rfl) ?_
    refine r_icmp_ge M dX4_empty_35 (tgt := 70) rfl (by omega) (fun b35 => ?_) (fun b35 => by omega)
    refine r_vret MM dX4_empty_70 ?_
    exact h
  · intro l hl hP
    have ho := hO l (by omega)
    refine r_iload_n M dX4_empty_30 rfl ?_
    refine r_aload_n M dX4_empty_31 rfl ?_
    refine r_getV M dX4_empty_32 fk_X4_80 (by decide) rfl (S 11 0 14) (by rfl) ?_
    refine r_icmp_ge M dX4_empty_35 (tgt := 70) rfl (by omega) (fun b35 => by omega) (fun b35 => ?_)
    refine r_aload_n M dX4_empty_38 rfl ?_
    refine r_getR M dX4_empty_39 fk_X4_37 (by decide) rfl ?_
    refine r_iload_n M dX4_empty_42 rfl ?_
    refine r_aload_n M dX4_empty_43 rfl ?_
    refine r_getR M dX4_empty_44 fk_X4_37 (by decide) rfl ?_
    refine r_iload_n M dX4_empty_47 rfl ?_
    refine r_ialdV M (_) dX4_empty_48 ⟨rfl, by decide⟩ (by decide) rfl (show (_ : Nat) < 1000 by omega) (Nat.le_of_ble_eq_true rfl) (S 21 0 l) (by exact owS_at _ _ _) ?_
    refine r_iload_n M dX4_empty_49 rfl ?_
    refine r_icmp_ne M dX4_empty_50 (tgt := 57) rfl (by omega) (fun b50 => ?_) (fun b50 => ?_)
    · refine r_aload_n M dX4_empty_57 rfl ?_
      refine r_getR M dX4_empty_58 fk_X4_37 (by decide) rfl ?_
      refine r_iload_n M dX4_empty_61 rfl ?_
      refine r_ialdV M (_) dX4_empty_62 ⟨rfl, by decide⟩ (by decide) rfl (show (_ : Nat) < 1000 by omega) (Nat.le_of_ble_eq_true rfl) (S 21 0 l) (by exact owS_at _ _ _) ?_
      refine r_iast M (_) dX4_empty_63 ⟨rfl, by decide⟩ (by decide) rfl (show (_ : Nat) < 1000 by omega) (Nat.le_of_ble_eq_true rfl) ?_
      refine r_iinc_3 M (_) dX4_empty_64 rfl (by decide) rfl ?_
      refine r_goto M dX4_empty_67 (tgt := 30) rfl ?_
      exact k_S hP (owS_s _ _ _ (by first | (rw [if_pos b50]; done) | (rw [if_neg b50]; rfl) | (show _ = if S 21 0 l = (i : Int) then _ else S 21 0 l; rw [if_pos b50]) | (show _ = if S 21 0 l = (i : Int) then _ else S 21 0 l; rw [if_neg b50])))
    refine r_iconst M dX4_empty_53 ?_
    refine r_goto M dX4_empty_54 (tgt := 63) rfl ?_
    refine r_iast M (_) dX4_empty_63 ⟨rfl, by decide⟩ (by decide) rfl (show (_ : Nat) < 1000 by omega) (Nat.le_of_ble_eq_true rfl) ?_
    refine r_iinc_3 M (_) dX4_empty_64 rfl (by decide) rfl ?_
    refine r_goto M dX4_empty_67 (tgt := 30) rfl ?_
    exact k_S hP (owS_s _ _ _ (by first | (rw [if_pos b50]; done) | (rw [if_neg b50]; rfl) | (show _ = if S 21 0 l = (i : Int) then _ else S 21 0 l; rw [if_pos b50]) | (show _ = if S 21 0 l = (i : Int) then _ else S 21 0 l; rw [if_neg b50])))
end XModel2
