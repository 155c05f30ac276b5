/-! ===== DefaultFund$Auction ===== -/
def wnN (f : Nat → Int) : Nat → Int × Int
  | 0 => (-1, -1001)
  | m + 1 => if (wnN f m).2 < f m then ((m : Int), f m) else wnN f m
theorem wnN_succ (f : Nat → Int) (m : Nat) : wnN f (m + 1) = if (wnN f m).2 < f m then ((m : Int), f m) else wnN f m := rfl
theorem wnN_rng (f : Nat → Int) (hf : ∀ k, k < 10 → -1001 ≤ f k ∧ f k ≤ 1000) : ∀ m, m ≤ 10 → (-1001 ≤ (wnN f m).2 ∧ (wnN f m).2 ≤ 1000) ∧ ((wnN f m).1 = -1 ∨ 0 ≤ (wnN f m).1 ∧ (wnN f m).1 < m)
  | 0, _ => ⟨⟨by show (-1001 : Int) ≤ -1001; omega, by show (-1001 : Int) ≤ 1000; omega⟩, Or.inl rfl⟩
  | m + 1, hm => by
    have h := wnN_rng f hf m (by omega)
    have h2 := hf m (by omega)
    rw [wnN_succ]
    split
    · exact ⟨h2, Or.inr ⟨by show (0 : Int) ≤ m; omega, by show (m : Int) < _; omega⟩⟩
    · exact ⟨h.1, by omega⟩
def winr (S : St) (lot : Nat) : Int := (wnN (fun i => S 7 i lot) 10).1
abbrev isLw (S : St) (m lot : Nat) : Prop := winr S lot ≠ -1 ∧ 100 < S 7 (winr S lot).toNat lot - S 7 m lot
def mdN (S : St) (m : Nat) : Nat → Int
  | 0 => 0
  | l + 1 => if S 7 m l ≠ -1001 then mdN S m l + 1 else mdN S m l
def lwN (S : St) (m : Nat) : Nat → Int
  | 0 => 0
  | l + 1 => if S 7 m l ≠ -1001 then lwN S m l + (if isLw S m l then 1 else 0) else lwN S m l
theorem mdN_rng (S : St) (m : Nat) : ∀ l, 0 ≤ mdN S m l ∧ mdN S m l ≤ l
  | 0 => ⟨Int.le_refl _, Int.le_refl _⟩
  | l + 1 => by
    have h := mdN_rng S m l
    unfold mdN
    split <;> omega
theorem lwN_rng (S : St) (m : Nat) : ∀ l, 0 ≤ lwN S m l ∧ lwN S m l ≤ l
  | 0 => ⟨Int.le_refl _, Int.le_refl _⟩
  | l + 1 => by
    have h := lwN_rng S m l
    unfold lwN
    split
    · split <;> omega
    · omega
abbrev poor (S : St) (m : Nat) : Prop := 2 * mdN S m (S 2 0 1).toNat < S 2 0 1 ∨ mdN S m (S 2 0 1).toNat < 2 * lwN S m (S 2 0 1).toNat
/-- the auction's numbers are small -/
def smA (S : St) : Prop := (0 ≤ S 2 0 1 ∧ S 2 0 1 ≤ 120) ∧ ∀ i, i < 10 → ∀ k, k < 120 → -1001 ≤ S 7 i k ∧ S 7 i k ≤ 1000
def opS (S : St) (Ln m l : Nat) : St := fun t i k => if t = 7 ∧ (i < m ∧ k < Ln ∨ i = m ∧ k < l) then -1001 else up3 S 2 0 1 Ln t i k
theorem opS_0 (S : St) (Ln : Nat) : opS S Ln 0 0 = up3 S 2 0 1 Ln := by
  funext t i k
  unfold opS
  rw [if_neg (by omega)]
theorem opS_r (S : St) (Ln m : Nat) : opS S Ln m Ln = opS S Ln (m + 1) 0 := by
  funext t i k
  unfold opS
  by_cases h : t = 7 ∧ (i < m ∧ k < Ln ∨ i = m ∧ k < Ln)
  · rw [if_pos h, if_pos (by omega)]
  · rw [if_neg h, if_neg (by omega)]
theorem opS_s (S : St) (Ln m l : Nat) : up3 (opS S Ln m l) 7 m l (-1001) = opS S Ln m (l + 1) := by
  funext t i k
  show (if t = 7 ∧ i = m ∧ k = l then (-1001 : Int) else opS S Ln m l t i k) = _
  unfold opS
  by_cases h : t = 7 ∧ i = m ∧ k = l
  · rw [if_pos h, if_pos (by omega)]
  · rw [if_neg h]
    by_cases h2 : t = 7 ∧ (i < m ∧ k < Ln ∨ i = m ∧ k < l)
    · rw [if_pos h2, if_pos (by omega)]
    · rw [if_neg h2, if_neg (by omega)]
theorem opS_l (S : St) (Ln m l : Nat) : opS S Ln m l 2 0 1 = Ln := by simp [opS, up3]
section XAuction
variable {g : Gl} {S : St} {Ret : Option AV → St → Prop} {Thr : String → St → Prop}
theorem cn_opn {a : Int} (ha : 0 ≤ a ∧ a ≤ 1000000) (h : Ret none (opS S (min a 120).toNat 10 0)) : Cn g yX0_open cX0_open 4 none 1 21 0 [vR 2 0, vI a] S Ret Thr := by
  refine enter (L := [some (vR 2 0), some (vI a), none, none]) (by decide +kernel) (Nat.le_of_ble_eq_true rfl) rfl (fun K MM => ?_)
  have M := MM.mk
  have e0 : min a 120 = ((min a 120).toNat : Int) := by omega
  refine r_aload_n M dX0_open_0 rfl ?_
  refine r_iload_n M dX0_open_1 rfl ?_
  refine r_bipush M dX0_open_2 rfl ?_
  refine r_min M dX0_open_4 mm_X0_20 (by omega) ⟨by omega, by omega⟩ (Nat.le_of_ble_eq_true rfl) ?_
  refine r_putI M dX0_open_7 pk_X0_16 (by decide) ?_
  refine r_iconst M dX0_open_10 ?_
  refine r_istore_2 M dX0_open_11 (by decide) rfl ?_
  refine k_S (S1 := opS S (min a 120).toNat 0 0) ?_ (by rw [opS_0, ← e0])
  refine fz (P := fun m => ∀ c3, K 0 12 [some (vR 2 0), some (vI a), some (vI (m : Int)), c3] [] (opS S (min a 120).toNat m 0)) (m := 10) ?_ ?_ _
  · intro c3
    refine r_iload_n M dX0_open_12 rfl ?_
    refine r_bipush M dX0_open_13 rfl ?_
    refine r_icmp_ge M dX0_open_15 (tgt := 51) rfl (by omega) (fun b15 => ?_) (fun b15 => by omega)
    refine r_vret MM dX0_open_51 ?_
    exact h
  · intro m hm hP c3
    refine r_iload_n M dX0_open_12 rfl ?_
    refine r_bipush M dX0_open_13 rfl ?_
    refine r_icmp_ge M dX0_open_15 (tgt := 51) rfl (by omega) (fun b15 => by omega) (fun b15 => ?_)
    refine r_iconst M dX0_open_18 ?_
    refine r_istore_3 M dX0_open_19 (by decide) rfl ?_
    refine fz (P := fun l => K 0 20 [some (vR 2 0), some (vI a), some (vI (m : Int)), some (vI (l : Int))] [] (opS S (min a 120).toNat m l)) (m := (min a 120).toNat) ?_ ?_
    · refine r_iload_n M dX0_open_20 rfl ?_
      refine r_aload_n M dX0_open_21 rfl ?_
      refine r_getV M dX0_open_22 fk_X0_16 (by decide) rfl (((min a 120).toNat : Int)) (by exact opS_l _ _ _ _) ?_
      refine r_icmp_ge M dX0_open_25 (tgt := 45) rfl (by omega) (fun b25 => ?_) (fun b25 => by omega)
      refine r_iinc_2 M (_) dX0_open_45 rfl (by decide) rfl ?_
      refine r_goto M dX0_open_48 (tgt := 12) rfl ?_
      rw [opS_r]; exact hP _
    · intro l hl hQ
      refine r_iload_n M dX0_open_20 rfl ?_
      refine r_aload_n M dX0_open_21 rfl ?_
      refine r_getV M dX0_open_22 fk_X0_16 (by decide) rfl (((min a 120).toNat : Int)) (by exact opS_l _ _ _ _) ?_
      refine r_icmp_ge M dX0_open_25 (tgt := 45) rfl (by omega) (fun b25 => by omega) (fun b25 => ?_)
      refine r_aload_n M dX0_open_28 rfl ?_
      refine r_getR M dX0_open_29 fk_X0_11 (by decide) rfl ?_
      refine r_iload_n M dX0_open_32 rfl ?_
      refine r_aaldB M (_) dX0_open_33 rfl (by omega) ?_
      refine r_iload_n M dX0_open_34 rfl ?_
      refine r_sipush M dX0_open_35 rfl ?_
      refine r_iast M (_) dX0_open_38 ⟨rfl, by decide⟩ (show (_ : Nat) < 10 by omega) rfl (show (_ : Nat) < 120 by omega) (Nat.le_of_ble_eq_true rfl) ?_
      refine r_iinc_3 M (_) dX0_open_39 rfl (by decide) rfl ?_
      refine r_goto M dX0_open_42 (tgt := 20) rfl ?_
      exact k_S hQ (opS_s _ _ _ _)
theorem cn_hasLot {z : Int} (hz : -2147483648 ≤ z ∧ z ≤ 2147483647) (hA : 0 ≤ S 2 0 1 ∧ S 2 0 1 ≤ 120) (h1 : 0 ≤ z ∧ z < S 2 0 1 → Ret (some (vI 1)) S) (h0 : ¬ (0 ≤ z ∧ z < S 2 0 1) → Ret (some (vI 0)) S) : Cn g yX0_hasLot cX0_hasLot 2 (some .boolean) 0 0 0 [vR 2 0, vI z] S Ret Thr := by
  refine enter (L := [some (vR 2 0), some (vI z)]) (by decide +kernel) (Nat.le_of_ble_eq_true rfl) rfl (fun K MM => ?_)
  have M := MM.mk
  refine r_iload_n M dX0_hasLot_0 rfl ?_
  refine r_if_lt M dX0_hasLot_1 (tgt := 16) rfl (by omega) (fun b1 => ?_) (fun b1 => ?_)
  · refine r_iconst M dX0_hasLot_16 ?_
    refine r_zret MM dX0_hasLot_17 (by omega) ?_
    first | (exact h1 (by omega)) | (exact h0 (by omega))
  refine r_iload_n M dX0_hasLot_4 rfl ?_
  refine r_aload_n M dX0_hasLot_5 rfl ?_
  refine r_getI M dX0_hasLot_6 fk_X0_16 (by decide) rfl ?_
  refine r_icmp_ge M dX0_hasLot_9 (tgt := 16) rfl (by omega) (fun b9 => ?_) (fun b9 => ?_)
  · refine r_iconst M dX0_hasLot_16 ?_
    refine r_zret MM dX0_hasLot_17 (by omega) ?_
    first | (exact h1 (by omega)) | (exact h0 (by omega))
  refine r_iconst M dX0_hasLot_12 ?_
  refine r_goto M dX0_hasLot_13 (tgt := 17) rfl ?_
  refine r_zret MM dX0_hasLot_17 (by omega) ?_
  first | (exact h1 (by omega)) | (exact h0 (by omega))
theorem cn_bidOf {m : Nat} {zm zl : Int} (lot : Nat) (em : zm = m) (el : zl = lot) (hm : m < 10) (hl : lot < 120) (h : Ret (some (vI (S 7 m lot))) S) : Cn g yX0_bidOf cX0_bidOf 3 (some .int) 0 0 0 [vR 2 0, vI zm, vI zl] S Ret Thr := by
  subst em; subst el
  refine enter (L := [some (vR 2 0), some (vI (m : Int)), some (vI (lot : Int))]) (by decide +kernel) (Nat.le_of_ble_eq_true rfl) rfl (fun K MM => ?_)
  have M := MM.mk
  refine r_aload_n M dX0_bidOf_0 rfl ?_
  refine r_getR M dX0_bidOf_1 fk_X0_11 (by decide) rfl ?_
  refine r_iload_n M dX0_bidOf_4 rfl ?_
  refine r_aaldB M (_) dX0_bidOf_5 rfl (by omega) ?_
  refine r_iload_n M dX0_bidOf_6 rfl ?_
  refine r_iald M (_) dX0_bidOf_7 ⟨rfl, by decide⟩ (show (_ : Nat) < 10 by omega) rfl (show (_ : Nat) < 120 by omega) (Nat.le_of_ble_eq_true rfl) ?_
  refine r_iret MM dX0_bidOf_8 ?_
  exact h
theorem cn_enterA {m : Nat} {zm zl : Int} (lot : Nat) (em : zm = m) (el : zl = lot) (hm : m < 10) (hl : lot < 120) (x : Int) (h : Ret none (up3 S 7 m lot x)) : Cn g yX0_enter cX0_enter 4 none 0 0 0 [vR 2 0, vI zm, vI zl, vI x] S Ret Thr := by
  subst em; subst el
  refine enter (L := [some (vR 2 0), some (vI (m : Int)), some (vI (lot : Int)), some (vI x)]) (by decide +kernel) (Nat.le_of_ble_eq_true rfl) rfl (fun K MM => ?_)
  have M := MM.mk
  refine r_aload_n M dX0_enter_0 rfl ?_
  refine r_getR M dX0_enter_1 fk_X0_11 (by decide) rfl ?_
  refine r_iload_n M dX0_enter_4 rfl ?_
  refine r_aaldB M (_) dX0_enter_5 rfl (by omega) ?_
  refine r_iload_n M dX0_enter_6 rfl ?_
  refine r_iload_n M dX0_enter_7 rfl ?_
  refine r_iast M (_) dX0_enter_8 ⟨rfl, by decide⟩ (show (_ : Nat) < 10 by omega) rfl (show (_ : Nat) < 120 by omega) (Nat.le_of_ble_eq_true rfl) ?_
  refine r_vret MM dX0_enter_9 ?_
  exact h
theorem cn_winnerOf {lot : Nat} (hl : lot < 120) (hA : smA S) (h : Ret (some (vI (winr S lot))) S) : Cn g yX0_winnerOf cX0_winnerOf 5 (some .int) 0 0 0 [vR 2 0, vI (lot : Int)] S Ret Thr := by
  refine enter (L := [some (vR 2 0), some (vI (lot : Int)), none, none, none]) (by decide +kernel) (Nat.le_of_ble_eq_true rfl) rfl (fun K MM => ?_)
  have M := MM.mk
  refine r_iconst M dX0_winnerOf_0 ?_
  refine r_istore_2 M dX0_winnerOf_1 (by decide) rfl ?_
  refine r_sipush M dX0_winnerOf_2 rfl ?_
  refine r_istore_3 M dX0_winnerOf_5 (by decide) rfl ?_
  refine r_iconst M dX0_winnerOf_6 ?_
  refine r_istore_4 M dX0_winnerOf_7 (by decide) rfl ?_
  refine fz (P := fun m => K 0 9 [some (vR 2 0), some (vI (lot : Int)), some (vI (wnN (fun i => S 7 i lot) m).1), some (vI (wnN (fun i => S 7 i lot) m).2), some (vI (m : Int))] [] S) (m := 10) ?_ ?_
  · refine r_iload M dX0_winnerOf_9 rfl ?_
    refine r_bipush M dX0_winnerOf_11 rfl ?_
    refine r_icmp_ge M dX0_winnerOf_13 (tgt := 48) rfl (by omega) (fun b13 => ?_) (fun b13 => by omega)
    refine r_iload_n M dX0_winnerOf_48 rfl ?_
    refine r_iret MM dX0_winnerOf_49 ?_
    exact h
  · intro m hm hP
    have hr := wnN_rng (fun i => S 7 i lot) (fun k hk => hA.2 k hk lot hl) m (by omega)
    have hb := hA.2 m hm lot hl
    rw [wnN_succ] at hP
    refine r_iload M dX0_winnerOf_9 rfl ?_
    refine r_bipush M dX0_winnerOf_11 rfl ?_
    refine r_icmp_ge M dX0_winnerOf_13 (tgt := 48) rfl (by omega) (fun b13 => by omega) (fun b13 => ?_)
    refine r_aload_n M dX0_winnerOf_16 rfl ?_
    refine r_getR M dX0_winnerOf_17 fk_X0_11 (by decide) rfl ?_
    refine r_iload M dX0_winnerOf_20 rfl ?_
    refine r_aaldB M (_) dX0_winnerOf_22 rfl (by omega) ?_
    refine r_iload_n M dX0_winnerOf_23 rfl ?_
    refine r_iald M (_) dX0_winnerOf_24 ⟨rfl, by decide⟩ (show (_ : Nat) < 10 by omega) rfl (show (_ : Nat) < 120 by omega) (Nat.le_of_ble_eq_true rfl) ?_
    refine r_iload_n M dX0_winnerOf_25 rfl ?_
    refine r_icmp_le M dX0_winnerOf_26 (tgt := 42) rfl (by omega) (fun b26 => ?_) (fun b26 => ?_)
    · refine r_iinc_4 M (_) dX0_winnerOf_42 rfl (by decide) rfl ?_
      refine r_goto M dX0_winnerOf_45 (tgt := 9) rfl ?_
      first | (rw [if_pos (by omega)] at hP; exact hP) | (rw [if_neg (by omega)] at hP; exact hP)
    refine r_aload_n M dX0_winnerOf_29 rfl ?_
    refine r_getR M dX0_winnerOf_30 fk_X0_11 (by decide) rfl ?_
    refine r_iload M dX0_winnerOf_33 rfl ?_
    refine r_aaldB M (_) dX0_winnerOf_35 rfl (by omega) ?_
    refine r_iload_n M dX0_winnerOf_36 rfl ?_
    refine r_iald M (_) dX0_winnerOf_37 ⟨rfl, by decide⟩ (show (_ : Nat) < 10 by omega) rfl (show (_ : Nat) < 120 by omega) (Nat.le_of_ble_eq_true rfl) ?_
    refine r_istore_3 M dX0_winnerOf_38 (by decide) rfl ?_
    refine r_iload M dX0_winnerOf_39 rfl ?_
    refine r_istore_2 M dX0_winnerOf_41 (by decide) rfl ?_
    refine r_iinc_4 M (_) dX0_winnerOf_42 rfl (by decide) rfl ?_
    refine r_goto M dX0_winnerOf_45 (tgt := 9) rfl ?_
    first | (rw [if_pos (by omega)] at hP; exact hP) | (rw [if_neg (by omega)] at hP; exact hP)
theorem cn_winnerV {lot : Nat} {v : Int} (hv : winr S lot = v) (hl : lot < 120) (hA : smA S) (h : Ret (some (vI v)) S) : Cn g yX0_winnerOf cX0_winnerOf 5 (some .int) 0 0 0 [vR 2 0, vI (lot : Int)] S Ret Thr := by
  subst hv
  exact cn_winnerOf hl hA h
theorem cn_bidOfV {zm zl v : Int} (m lot : Nat) (em : zm = m) (el : zl = lot) (hm : m < 10) (hl : lot < 120) (hv : S 7 m lot = v) (h : Ret (some (vI v)) S) : Cn g yX0_bidOf cX0_bidOf 3 (some .int) 0 0 0 [vR 2 0, vI zm, vI zl] S Ret Thr := by
  subst hv
  exact cn_bidOf lot em el hm hl h
theorem cn_isLow {m lot : Nat} (hm : m < 10) (hl : lot < 120) (hA : smA S) (h1 : isLw S m lot → Ret (some (vI 1)) S) (h0 : ¬ isLw S m lot → Ret (some (vI 0)) S) : Cn g yX0_isLow cX0_isLow 4 (some .boolean) 1 24 0 [vR 2 0, vI (m : Int), vI (lot : Int)] S Ret Thr := by
  refine enter (L := [some (vR 2 0), some (vI (m : Int)), some (vI (lot : Int)), none]) (by decide +kernel) (Nat.le_of_ble_eq_true rfl) rfl (fun K MM => ?_)
  have M := MM.mk
  have hr := wnN_rng (fun i => S 7 i lot) (fun k hk => hA.2 k hk lot hl) 10 (by omega)
  have hb := hA.2 m hm lot hl
  have hw : winr S lot = -1 ∨ 0 ≤ winr S lot ∧ winr S lot < 10 := hr.2
  have hb2 : 0 ≤ winr S lot → -1001 ≤ S 7 (winr S lot).toNat lot ∧ S 7 (winr S lot).toNat lot ≤ 1000 := fun q => hA.2 _ (by omega) lot hl
  refine r_aload_n M dX0_isLow_0 rfl ?_
  refine r_iload_n M dX0_isLow_1 rfl ?_
  refine r_callV1 MM dX0_isLow_2 ck_X0_30 vk_X0_winnerOf ⟨by omega, by omega, by omega⟩ ⟨by decide, by decide, rfl⟩ (by decide) (Nat.le_of_ble_eq_true rfl) (cn_winnerOf hl hA ?_)
  refine r_istore_3 M dX0_isLow_5 (by decide) rfl ?_
  refine r_iload_n M dX0_isLow_6 rfl ?_
  refine r_iconst M dX0_isLow_7 ?_
  refine r_icmp_eq M dX0_isLow_8 (tgt := 37) rfl (by omega) (fun b8 => ?_) (fun b8 => ?_)
  · refine r_iconst M dX0_isLow_37 ?_
    refine r_zret MM dX0_isLow_38 (by omega) ?_
    first | (exact h1 ⟨by omega, by omega⟩) | (exact h0 (fun q => by have := q.1; have := q.2; omega))
  refine r_aload_n M dX0_isLow_11 rfl ?_
  refine r_getR M dX0_isLow_12 fk_X0_11 (by decide) rfl ?_
  refine r_iload_n M dX0_isLow_15 rfl ?_
  refine r_aaldB M ((winr S lot).toNat) dX0_isLow_16 (by omega) (by omega) ?_
  refine r_iload_n M dX0_isLow_17 rfl ?_
  refine r_iald M (_) dX0_isLow_18 ⟨rfl, by decide⟩ (show (_ : Nat) < 10 by omega) rfl (show (_ : Nat) < 120 by omega) (Nat.le_of_ble_eq_true rfl) ?_
  refine r_aload_n M dX0_isLow_19 rfl ?_
  refine r_getR M dX0_isLow_20 fk_X0_11 (by decide) rfl ?_
  refine r_iload_n M dX0_isLow_23 rfl ?_
  refine r_aaldB M (_) dX0_isLow_24 rfl (by omega) ?_
  refine r_iload_n M dX0_isLow_25 rfl ?_
  refine r_iald M (_) dX0_isLow_26 ⟨rfl, by decide⟩ (show (_ : Nat) < 10 by omega) rfl (show (_ : Nat) < 120 by omega) (Nat.le_of_ble_eq_true rfl) ?_
  refine r_isub M dX0_isLow_27 ?_
  refine r_bipush M dX0_isLow_28 rfl ?_
  refine r_icmp_le M dX0_isLow_30 (tgt := 37) rfl (by omega) (fun b30 => ?_) (fun b30 => ?_)
  · refine r_iconst M dX0_isLow_37 ?_
    refine r_zret MM dX0_isLow_38 (by omega) ?_
    first | (exact h1 ⟨by omega, by omega⟩) | (exact h0 (fun q => by have := q.1; have := q.2; omega))
  refine r_iconst M dX0_isLow_33 ?_
  refine r_goto M dX0_isLow_34 (tgt := 38) rfl ?_
  refine r_zret MM dX0_isLow_38 (by omega) ?_
  first | (exact h1 ⟨by omega, by omega⟩) | (exact h0 (fun q => by have := q.1; have := q.2; omega))
theorem cn_bidPoorly {m : Nat} (hm : m < 10) (hA : smA S) (h1 : poor S m → Ret (some (vI 1)) S) (h0 : ¬ poor S m → Ret (some (vI 0)) S) : Cn g yX0_bidPoorly cX0_bidPoorly 5 (some .boolean) 2 47 0 [vR 2 0, vI (m : Int)] S Ret Thr := by
  refine enter (L := [some (vR 2 0), some (vI (m : Int)), none, none, none]) (by decide +kernel) (Nat.le_of_ble_eq_true rfl) rfl (fun K MM => ?_)
  have M := MM.mk
  have hl1 := hA.1
  refine r_iconst M dX0_bidPoorly_0 ?_
  refine r_istore_2 M dX0_bidPoorly_1 (by decide) rfl ?_
  refine r_iconst M dX0_bidPoorly_2 ?_
  refine r_istore_3 M dX0_bidPoorly_3 (by decide) rfl ?_
  refine r_iconst M dX0_bidPoorly_4 ?_
  refine r_istore_4 M dX0_bidPoorly_5 (by decide) rfl ?_
  refine fz (P := fun l => K 0 7 [some (vR 2 0), some (vI (m : Int)), some (vI (mdN S m l)), some (vI (lwN S m l)), some (vI (l : Int))] [] S) (m := (S 2 0 1).toNat) ?_ ?_
  · have t1 := mdN_rng S m (S 2 0 1).toNat
    have t2 := lwN_rng S m (S 2 0 1).toNat
    refine r_iload M dX0_bidPoorly_7 rfl ?_
    refine r_aload_n M dX0_bidPoorly_9 rfl ?_
    refine r_getI M dX0_bidPoorly_10 fk_X0_16 (by decide) rfl ?_
    refine r_icmp_ge M dX0_bidPoorly_13 (tgt := 58) rfl (by omega) (fun b13 => ?_) (fun b13 => by omega)
    refine r_iconst M dX0_bidPoorly_58 ?_
    refine r_iload_n M dX0_bidPoorly_59 rfl ?_
    refine r_imul M dX0_bidPoorly_60 ?_
    refine r_aload_n M dX0_bidPoorly_61 rfl ?_
    refine r_getI M dX0_bidPoorly_62 fk_X0_16 (by decide) rfl ?_
    refine r_icmp_lt M dX0_bidPoorly_65 (tgt := 75) rfl (by omega) (fun b65 => ?_) (fun b65 => ?_)
    · refine r_iconst M dX0_bidPoorly_75 ?_
      refine r_goto M dX0_bidPoorly_76 (tgt := 80) rfl ?_
      refine r_zret MM dX0_bidPoorly_80 (by omega) ?_
      first | (exact h1 (by unfold poor; omega)) | (exact h0 (by unfold poor; omega))
    refine r_iconst M dX0_bidPoorly_68 ?_
    refine r_iload_n M dX0_bidPoorly_69 rfl ?_
    refine r_imul M dX0_bidPoorly_70 ?_
    refine r_iload_n M dX0_bidPoorly_71 rfl ?_
    refine r_icmp_le M dX0_bidPoorly_72 (tgt := 79) rfl (by omega) (fun b72 => ?_) (fun b72 => ?_)
    · refine r_iconst M dX0_bidPoorly_79 ?_
      refine r_zret MM dX0_bidPoorly_80 (by omega) ?_
      first | (exact h1 (by unfold poor; omega)) | (exact h0 (by unfold poor; omega))
    refine r_iconst M dX0_bidPoorly_75 ?_
    refine r_goto M dX0_bidPoorly_76 (tgt := 80) rfl ?_
    refine r_zret MM dX0_bidPoorly_80 (by omega) ?_
    first | (exact h1 (by unfold poor; omega)) | (exact h0 (by unfold poor; omega))
  · intro l hl hP
    have t1 := mdN_rng S m l
    have t2 := lwN_rng S m l
    have hb := hA.2 m hm l (by omega)
    refine r_iload M dX0_bidPoorly_7 rfl ?_
    refine r_aload_n M dX0_bidPoorly_9 rfl ?_
    refine r_getI M dX0_bidPoorly_10 fk_X0_16 (by decide) rfl ?_
    refine r_icmp_ge M dX0_bidPoorly_13 (tgt := 58) rfl (by omega) (fun b13 => by omega) (fun b13 => ?_)
    refine r_aload_n M dX0_bidPoorly_16 rfl ?_
    refine r_getR M dX0_bidPoorly_17 fk_X0_11 (by decide) rfl ?_
    refine r_iload_n M dX0_bidPoorly_20 rfl ?_
    refine r_aaldB M (_) dX0_bidPoorly_21 rfl (by omega) ?_
    refine r_iload M dX0_bidPoorly_22 rfl ?_
    refine r_iald M (_) dX0_bidPoorly_24 ⟨rfl, by decide⟩ (show (_ : Nat) < 10 by omega) rfl (show (_ : Nat) < 120 by omega) (Nat.le_of_ble_eq_true rfl) ?_
    refine r_sipush M dX0_bidPoorly_25 rfl ?_
    refine r_icmp_eq M dX0_bidPoorly_28 (tgt := 52) rfl (by omega) (fun b28 => ?_) (fun b28 => ?_)
    · refine r_iinc_4 M (_) dX0_bidPoorly_52 rfl (by decide) rfl ?_
      refine r_goto M dX0_bidPoorly_55 (tgt := 7) rfl ?_
      first | (simp only [mdN, lwN, if_pos b28, if_pos hq] at hP; exact hP) | (simp only [mdN, lwN, if_pos b28, if_neg hq, Int.add_zero] at hP; rw [Int.add_zero]; exact hP) | (simp only [mdN, lwN, if_neg (show ¬ S 7 m l ≠ -1001 from fun q => q b28)] at hP; exact hP)
    refine r_iinc_2 M (_) dX0_bidPoorly_31 rfl (by decide) rfl ?_
    refine r_iload_n M dX0_bidPoorly_34 rfl ?_
    refine r_aload_n M dX0_bidPoorly_35 rfl ?_
    refine r_iload_n M dX0_bidPoorly_36 rfl ?_
    refine r_iload M dX0_bidPoorly_37 rfl ?_
    refine r_callV2 MM dX0_bidPoorly_39 ck_X0_26 vk_X0_isLow ⟨by omega, by omega, by omega⟩ ⟨by decide, by decide, rfl⟩ (by decide) (Nat.le_of_ble_eq_true rfl) (cn_isLow hm (by omega) hA (fun hq => ?_) (fun hq => ?_))
    · refine r_if_eq M dX0_bidPoorly_42 (tgt := 49) rfl (by omega) (fun b42 => by omega) (fun b42 => ?_)
      refine r_iconst M dX0_bidPoorly_45 ?_
      refine r_goto M dX0_bidPoorly_46 (tgt := 50) rfl ?_
      refine r_iadd M dX0_bidPoorly_50 ?_
      refine r_istore_3 M dX0_bidPoorly_51 (by decide) rfl ?_
      refine r_iinc_4 M (_) dX0_bidPoorly_52 rfl (by decide) rfl ?_
      refine r_goto M dX0_bidPoorly_55 (tgt := 7) rfl ?_
      first | (simp only [mdN, lwN, if_pos b28, if_pos hq] at hP; exact hP) | (simp only [mdN, lwN, if_pos b28, if_neg hq, Int.add_zero] at hP; rw [Int.add_zero]; exact hP) | (simp only [mdN, lwN, if_neg (show ¬ S 7 m l ≠ -1001 from fun q => q b28)] at hP; exact hP)
    refine r_if_eq M dX0_bidPoorly_42 (tgt := 49) rfl (by omega) (fun b42 => ?_) (fun b42 => by omega)
    refine r_iconst M dX0_bidPoorly_49 ?_
    refine r_iadd M dX0_bidPoorly_50 ?_
    refine r_istore_3 M dX0_bidPoorly_51 (by decide) rfl ?_
    refine r_iinc_4 M (_) dX0_bidPoorly_52 rfl (by decide) rfl ?_
    refine r_goto M dX0_bidPoorly_55 (tgt := 7) rfl ?_
    first | (simp only [mdN, lwN, if_pos b28, if_pos hq] at hP; exact hP) | (simp only [mdN, lwN, if_pos b28, if_neg hq, Int.add_zero] at hP; rw [Int.add_zero]; exact hP) | (simp only [mdN, lwN, if_neg (show ¬ S 7 m l ≠ -1001 from fun q => q b28)] at hP; exact hP)
end XAuction
