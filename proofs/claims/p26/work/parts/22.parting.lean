/-! ===== how an amount is parted, in whole numbers ===== -/
def updI (p : Nat → Int) (k : Nat) (v : Int) : Nat → Int := fun j => if j = k then v else p j
abbrev ct (w b p : Nat → Int) (k : Nat) : Prop := 0 < w k ∧ p k < b k
def tkN (w b p : Nat → Int) : Nat → Int
  | 0 => 0
  | m + 1 => if ct w b p m then tkN w b p m + 1 else tkN w b p m
def rdN (w b p : Nat → Int) (left : Int) : Nat → Int
  | 0 => left
  | m + 1 => if ct w b p m then min (rdN w b p left m) (b m - p m) else rdN w b p left m
def rounds (w b p : Nat → Int) (left : Int) : Int := if tkN w b p 10 = 0 then 0 else max 1 (min (rdN w b p left 10) (left / tkN w b p 10))
def gvN (w b : Nat → Int) (coins : Int) (p : Nat → Int) (left : Int) : Nat → (Nat → Int) × Int
  | 0 => (p, left)
  | m + 1 => if ct w b (gvN w b coins p left m).1 m ∧ coins ≤ (gvN w b coins p left m).2 then (updI (gvN w b coins p left m).1 m ((gvN w b coins p left m).1 m + coins), (gvN w b coins p left m).2 - coins) else gvN w b coins p left m
def stk1 (w b : Nat → Int) (x : (Nat → Int) × Int) : (Nat → Int) × Int := gvN w b (rounds w b x.1 x.2) x.1 x.2 10
def strokes (w b : Nat → Int) (x : (Nat → Int) × Int) : Nat → (Nat → Int) × Int
  | 0 => x
  | n + 1 => if 0 < (strokes w b x n).2 then stk1 w b (strokes w b x n) else strokes w b x n
theorem strokes_succ (w b : Nat → Int) (x : (Nat → Int) × Int) (n : Nat) : strokes w b x (n + 1) = if 0 < (strokes w b x n).2 then stk1 w b (strokes w b x n) else strokes w b x n := rfl
theorem gvN_succ (w b : Nat → Int) (coins : Int) (p : Nat → Int) (left : Int) (m : Nat) : gvN w b coins p left (m + 1) = if ct w b (gvN w b coins p left m).1 m ∧ coins ≤ (gvN w b coins p left m).2 then (updI (gvN w b coins p left m).1 m ((gvN w b coins p left m).1 m + coins), (gvN w b coins p left m).2 - coins) else gvN w b coins p left m := rfl
def smN (f : Nat → Int) : Nat → Int
  | 0 => 0
  | m + 1 => smN f m + f m
theorem tkN_rng (w b p : Nat → Int) : ∀ m, 0 ≤ tkN w b p m ∧ tkN w b p m ≤ m
  | 0 => ⟨Int.le_refl _, Int.le_refl _⟩
  | m + 1 => by
    have h := tkN_rng w b p m
    unfold tkN
    split <;> omega
theorem tkN_z {w b p : Nat → Int} : ∀ {m k : Nat}, tkN w b p m = 0 → k < m → ¬ ct w b p k
  | m + 1, k, h, hk => by
    have h2 := tkN_rng w b p m
    unfold tkN at h
    split at h
    · omega
    · rename_i hc
      by_cases e : k = m
      · subst e; exact hc
      · exact tkN_z h (by omega)
theorem rdN_le (w b p : Nat → Int) (left : Int) : ∀ m, rdN w b p left m ≤ left
  | 0 => Int.le_refl _
  | m + 1 => by
    have h := rdN_le w b p left m
    unfold rdN
    split <;> omega
theorem rdN_nn (w b p : Nat → Int) {left : Int} (hl : 0 ≤ left) : ∀ m, 0 ≤ rdN w b p left m
  | 0 => hl
  | m + 1 => by
    have h := rdN_nn w b p hl m
    unfold rdN
    split
    · rename_i hc
      have := hc.2
      omega
    · exact h
theorem rdN_ct {w b p : Nat → Int} {left : Int} : ∀ {m k : Nat}, k < m → ct w b p k → rdN w b p left m ≤ b k - p k
  | m + 1, k, hk, hc => by
    unfold rdN
    by_cases e : k = m
    · subst e
      rw [if_pos hc]
      omega
    · have h := rdN_ct (left := left) (show k < m by omega) hc
      split <;> omega
theorem rounds_ct {w b p : Nat → Int} {left : Int} (hl : 0 < left) {k : Nat} (hk : k < 10) (hc : ct w b p k) : 1 ≤ rounds w b p left ∧ rounds w b p left ≤ b k - p k := by
  have h1 : ¬ tkN w b p 10 = 0 := fun q => tkN_z q hk hc
  have h2 := rdN_ct (left := left) hk hc
  have h3 := hc.2
  unfold rounds
  rw [if_neg h1]
  omega
theorem gvN_hi (w b : Nat → Int) (coins : Int) (p : Nat → Int) (left : Int) : ∀ (m k : Nat), m ≤ k → (gvN w b coins p left m).1 k = p k
  | 0, _, _ => rfl
  | m + 1, k, h => by
    have h1 := gvN_hi w b coins p left m k (by omega)
    unfold gvN
    split
    · show updI _ m _ k = _
      unfold updI
      rw [if_neg (by omega)]
      exact h1
    · exact h1
/-- what holds of parts and rest -/
def okP (b : Nat → Int) (x : (Nat → Int) × Int) : Prop := (∀ k, k < 10 → 0 ≤ x.1 k ∧ x.1 k ≤ b k) ∧ 0 ≤ x.2 ∧ x.2 ≤ 1000000000
theorem gvN_ok {w b : Nat → Int} {x : (Nat → Int) × Int} (hx : okP b x) (hl : 0 < x.2) : ∀ m, m ≤ 10 → okP b (gvN w b (rounds w b x.1 x.2) x.1 x.2 m)
  | 0, _ => hx
  | m + 1, hm => by
    have h := gvN_ok (w := w) hx hl m (by omega)
    have e := gvN_hi w b (rounds w b x.1 x.2) x.1 x.2 m m (Nat.le_refl _)
    unfold gvN
    split
    · rename_i hc
      have hc1 : ct w b x.1 m := ⟨hc.1.1, by have := hc.1.2; rw [e] at this; exact this⟩
      have hr := rounds_ct hl (by omega) hc1
      have hxm := hx.1 m (by omega)
      refine ⟨fun k hk => ?_, ?_, ?_⟩
      · show 0 ≤ updI _ m _ k ∧ updI _ m _ k ≤ _
        unfold updI
        by_cases ek : k = m
        · subst ek
          rw [if_pos rfl, e]
          omega
        · rw [if_neg ek]
          exact h.1 k hk
      · have := hc.2
        show 0 ≤ _ - _
        omega
      · have := h.2.2
        show _ - _ ≤ _
        omega
    · exact h
theorem strokes_ok {w b : Nat → Int} {x : (Nat → Int) × Int} (hx : okP b x) : ∀ n, okP b (strokes w b x n)
  | 0 => hx
  | n + 1 => by
    have h := strokes_ok (w := w) hx n
    unfold strokes
    split
    · rename_i hl
      exact gvN_ok h hl 10 (Nat.le_refl _)
    · exact h
/-- the array of parts is p -/
def wp (S : St) (p : Nat → Int) : St := upT S 10 0 p
theorem wp_self (S : St) : wp S (S 10 0) = S := by
  funext a b c
  unfold wp upT
  split
  · rename_i h; rw [h.1, h.2]
  · rfl
theorem wp_10 (S : St) (p : Nat → Int) : wp S p 10 0 = p := by
  unfold wp upT
  rw [if_pos ⟨rfl, rfl⟩]
theorem wp_ne (S : St) (p : Nat → Int) {t i : Nat} (h : ¬ t = 10) : wp S p t i = S t i := by
  unfold wp upT
  rw [if_neg (fun q => h q.1)]
theorem wp_up (S : St) (p : Nat → Int) (k : Nat) (v : Int) : up3 (wp S p) 10 0 k v = wp S (updI p k v) := by
  funext a b c
  unfold up3 wp upT updI
  by_cases h : a = 10 ∧ b = 0
  · obtain ⟨rfl, rfl⟩ := h
    by_cases hc : c = k <;> simp [hc]
  · simp only [if_neg h, if_neg (fun q : a = 10 ∧ b = 0 ∧ c = k => h ⟨q.1, q.2.1⟩)]
/-! ===== DefaultFund$Parting ===== -/
section XParting
variable {g : Gl} {S : St} {Ret : Option AV → St → Prop} {Thr : String → St → Prop}
def enterS (S : St) (k : Nat) (w b : Int) : St := up3 (up3 S 8 0 k w) 9 0 k b
theorem cn_enter {k : Nat} (hk : k < 10) (w b : Int) (h : Ret none (enterS S k w b)) : Cn g yX2_enter cX2_enter 4 none 0 0 0 [vR 3 0, vI (k : Int), vI w, vI b] S Ret Thr := by
  refine enter (L := [some (vR 3 0), some (vI (k : Int)), some (vI w), some (vI b)]) (by decide +kernel) (Nat.le_of_ble_eq_true rfl) rfl (fun K MM => ?_)
  have M := MM.mk
  refine r_aload_n M dX2_enter_0 rfl ?_
  refine r_getR M dX2_enter_1 fk_X2_9 (by decide) rfl ?_
  refine r_iload_n M dX2_enter_4 rfl ?_
  refine r_iload_n M dX2_enter_5 rfl ?_
  refine r_iast M (_) dX2_enter_6 ⟨rfl, by decide⟩ (by decide) rfl (show (_ : Nat) < 10 by omega) (Nat.le_of_ble_eq_true rfl) ?_
  refine r_aload_n M dX2_enter_7 rfl ?_
  refine r_getR M dX2_enter_8 fk_X2_15 (by decide) rfl ?_
  refine r_iload_n M dX2_enter_11 rfl ?_
  refine r_iload_n M dX2_enter_12 rfl ?_
  refine r_iast M (_) dX2_enter_13 ⟨rfl, by decide⟩ (by decide) rfl (show (_ : Nat) < 10 by omega) (Nat.le_of_ble_eq_true rfl) ?_
  refine r_vret MM dX2_enter_14 ?_
  exact h
theorem cn_partOf {k : Nat} (hk : k < 10) (h : Ret (some (vI (S 10 0 k))) S) : Cn g yX2_partOf cX2_partOf 2 (some .int) 0 0 0 [vR 3 0, vI (k : Int)] S Ret Thr := by
  refine enter (L := [some (vR 3 0), some (vI (k : Int))]) (by decide +kernel) (Nat.le_of_ble_eq_true rfl) rfl (fun K MM => ?_)
  have M := MM.mk
  refine r_aload_n M dX2_partOf_0 rfl ?_
  refine r_getR M dX2_partOf_1 fk_X2_18 (by decide) rfl ?_
  refine r_iload_n M dX2_partOf_4 rfl ?_
  refine r_iald M (_) dX2_partOf_5 ⟨rfl, by decide⟩ (by decide) rfl (show (_ : Nat) < 10 by omega) (Nat.le_of_ble_eq_true rfl) ?_
  refine r_iret MM dX2_partOf_6 ?_
  exact h
/-- the three arrays' numbers are small -/
def smP (S : St) : Prop := ∀ k, k < 10 → (0 ≤ S 8 0 k ∧ S 8 0 k ≤ 100000000) ∧ (0 ≤ S 9 0 k ∧ S 9 0 k ≤ 100000000) ∧ 0 ≤ S 10 0 k ∧ S 10 0 k ≤ 1000000000
theorem cn_canTake {w b p : Nat → Int} (e8 : S 8 0 = w) (e9 : S 9 0 = b) (e10 : S 10 0 = p) {k : Nat} (hk : k < 10) (hS : smP S) (h1 : ct w b p k → Ret (some (vI 1)) S) (h0 : ¬ ct w b p k → Ret (some (vI 0)) S) : Cn g yX2_canTake cX2_canTake 2 (some .boolean) 0 0 0 [vR 3 0, vI (k : Int)] S Ret Thr := by
  refine enter (L := [some (vR 3 0), some (vI (k : Int))]) (by decide +kernel) (Nat.le_of_ble_eq_true rfl) rfl (fun K MM => ?_)
  have M := MM.mk
  have hs := hS k hk
  subst e8; subst e9; subst e10
  refine r_aload_n M dX2_canTake_0 rfl ?_
  refine r_getR M dX2_canTake_1 fk_X2_9 (by decide) rfl ?_
  refine r_iload_n M dX2_canTake_4 rfl ?_
  refine r_iald M (_) dX2_canTake_5 ⟨rfl, by decide⟩ (by decide) rfl (show (_ : Nat) < 10 by omega) (Nat.le_of_ble_eq_true rfl) ?_
  refine r_if_le M dX2_canTake_6 (tgt := 28) rfl (by omega) (fun b6 => ?_) (fun b6 => ?_)
  · refine r_iconst M dX2_canTake_28 ?_
    refine r_zret MM dX2_canTake_29 (by omega) ?_
    first | (exact h1 ⟨by omega, by omega⟩) | (exact h0 (fun q => by have := q.1; have := q.2; omega))
  refine r_aload_n M dX2_canTake_9 rfl ?_
  refine r_getR M dX2_canTake_10 fk_X2_18 (by decide) rfl ?_
  refine r_iload_n M dX2_canTake_13 rfl ?_
  refine r_iald M (_) dX2_canTake_14 ⟨rfl, by decide⟩ (by decide) rfl (show (_ : Nat) < 10 by omega) (Nat.le_of_ble_eq_true rfl) ?_
  refine r_aload_n M dX2_canTake_15 rfl ?_
  refine r_getR M dX2_canTake_16 fk_X2_15 (by decide) rfl ?_
  refine r_iload_n M dX2_canTake_19 rfl ?_
  refine r_iald M (_) dX2_canTake_20 ⟨rfl, by decide⟩ (by decide) rfl (show (_ : Nat) < 10 by omega) (Nat.le_of_ble_eq_true rfl) ?_
  refine r_icmp_ge M dX2_canTake_21 (tgt := 28) rfl (by omega) (fun b21 => ?_) (fun b21 => ?_)
  · refine r_iconst M dX2_canTake_28 ?_
    refine r_zret MM dX2_canTake_29 (by omega) ?_
    first | (exact h1 ⟨by omega, by omega⟩) | (exact h0 (fun q => by have := q.1; have := q.2; omega))
  refine r_iconst M dX2_canTake_24 ?_
  refine r_goto M dX2_canTake_25 (tgt := 29) rfl ?_
  refine r_zret MM dX2_canTake_29 (by omega) ?_
  first | (exact h1 ⟨by omega, by omega⟩) | (exact h0 (fun q => by have := q.1; have := q.2; omega))
theorem cn_rounds {w b p : Nat → Int} (e8 : S 8 0 = w) (e9 : S 9 0 = b) (e10 : S 10 0 = p) {left : Int} (hl : 0 < left ∧ left ≤ 1000000000) (hS : smP S) (h : Ret (some (vI (rounds w b p left))) S) : Cn g yX2_roundsAtAStroke cX2_roundsAtAStroke 5 (some .int) 1 21 0 [vR 3 0, vI left] S Ret Thr := by
  refine enter (L := [some (vR 3 0), some (vI left), none, none, none]) (by decide +kernel) (Nat.le_of_ble_eq_true rfl) rfl (fun K MM => ?_)
  have M := MM.mk
  refine r_iconst M dX2_roundsAtAStroke_0 ?_
  refine r_istore_2 M dX2_roundsAtAStroke_1 (by decide) rfl ?_
  refine r_iload_n M dX2_roundsAtAStroke_2 rfl ?_
  refine r_istore_3 M dX2_roundsAtAStroke_3 (by decide) rfl ?_
  refine r_iconst M dX2_roundsAtAStroke_4 ?_
  refine r_istore_4 M dX2_roundsAtAStroke_5 (by decide) rfl ?_
  refine fz (P := fun l => K 0 7 [some (vR 3 0), some (vI left), some (vI (tkN w b p l)), some (vI (rdN w b p left l)), some (vI (l : Int))] [] S) (m := 10) ?_ ?_
  · have ht := tkN_rng w b p 10
    have hr := rdN_le w b p left 10
    have hr2 := rdN_nn w b p (Int.le_of_lt hl.1) 10
    have hd1 : 0 ≤ left / tkN w b p 10 := Int.ediv_nonneg (by omega) ht.1
    have hd2 : left / tkN w b p 10 ≤ left := Int.ediv_le_self _ (by omega)
    refine r_iload M dX2_roundsAtAStroke_7 rfl ?_
    refine r_bipush M dX2_roundsAtAStroke_9 rfl ?_
    refine r_icmp_ge M dX2_roundsAtAStroke_11 (tgt := 52) rfl (by omega) (fun b11 => ?_) (fun b11 => by omega)
    refine r_iload_n M dX2_roundsAtAStroke_52 rfl ?_
    refine r_if_ne M dX2_roundsAtAStroke_53 (tgt := 58) rfl (by omega) (fun b53 => ?_) (fun b53 => ?_)
    · refine r_iconst M dX2_roundsAtAStroke_58 ?_
      refine r_iload_n M dX2_roundsAtAStroke_59 rfl ?_
      refine r_iload_n M dX2_roundsAtAStroke_60 rfl ?_
      refine r_iload_n M dX2_roundsAtAStroke_61 rfl ?_
      refine r_idiv M dX2_roundsAtAStroke_62 (by omega) ?_
      refine r_min M dX2_roundsAtAStroke_63 mm_X2_21 (by omega) ⟨by omega, by omega⟩ (Nat.le_of_ble_eq_true rfl) ?_
      refine r_max M dX2_roundsAtAStroke_66 mm_X2_38 (by omega) ⟨by omega, by omega⟩ (Nat.le_of_ble_eq_true rfl) ?_
      refine r_iret MM dX2_roundsAtAStroke_69 ?_
      exact ret_v h (by unfold rounds; rw [if_neg b53])
    refine r_iconst M dX2_roundsAtAStroke_56 ?_
    refine r_iret MM dX2_roundsAtAStroke_57 ?_
    exact ret_v h (by unfold rounds; rw [if_pos b53])
  · intro l hl9 hP
    have hs := hS l hl9
    rw [e9, e10] at hs
    have ht := tkN_rng w b p l
    have hr := rdN_le w b p left l
    have hr2 := rdN_nn w b p (Int.le_of_lt hl.1) l
    refine r_iload M dX2_roundsAtAStroke_7 rfl ?_
    refine r_bipush M dX2_roundsAtAStroke_9 rfl ?_
    refine r_icmp_ge M dX2_roundsAtAStroke_11 (tgt := 52) rfl (by omega) (fun b11 => by omega) (fun b11 => ?_)
    refine r_aload_n M dX2_roundsAtAStroke_14 rfl ?_
    refine r_iload M dX2_roundsAtAStroke_15 rfl ?_
    refine r_callV1 MM dX2_roundsAtAStroke_17 ck_X2_34 vk_X2_canTake ⟨by omega, by omega, by omega⟩ ⟨by decide, by decide, rfl⟩ (by decide) (Nat.le_of_ble_eq_true rfl) (cn_canTake e8 e9 e10 hl9 hS (fun hq => ?_) (fun hq => ?_))
    · refine r_if_eq M dX2_roundsAtAStroke_20 (tgt := 46) rfl (by omega) (fun b20 => by omega) (fun b20 => ?_)
      refine r_iinc_2 M (_) dX2_roundsAtAStroke_23 rfl (by decide) rfl ?_
      refine r_iload_n M dX2_roundsAtAStroke_26 rfl ?_
      refine r_aload_n M dX2_roundsAtAStroke_27 rfl ?_
      refine r_getR M dX2_roundsAtAStroke_28 fk_X2_15 (by decide) rfl ?_
      refine r_iload M dX2_roundsAtAStroke_31 rfl ?_
      refine r_ialdV M (_) dX2_roundsAtAStroke_33 ⟨rfl, by decide⟩ (by decide) rfl (show (_ : Nat) < 10 by omega) (Nat.le_of_ble_eq_true rfl) (b l) (by rw [e9]) ?_
      refine r_aload_n M dX2_roundsAtAStroke_34 rfl ?_
      refine r_getR M dX2_roundsAtAStroke_35 fk_X2_18 (by decide) rfl ?_
      refine r_iload M dX2_roundsAtAStroke_38 rfl ?_
      refine r_ialdV M (_) dX2_roundsAtAStroke_40 ⟨rfl, by decide⟩ (by decide) rfl (show (_ : Nat) < 10 by omega) (Nat.le_of_ble_eq_true rfl) (p l) (by rw [e10]) ?_
      refine r_isub M dX2_roundsAtAStroke_41 ?_
      refine r_min M dX2_roundsAtAStroke_42 mm_X2_21 (by omega) ⟨by omega, by omega⟩ (Nat.le_of_ble_eq_true rfl) ?_
      refine r_istore_3 M dX2_roundsAtAStroke_45 (by decide) rfl ?_
      refine r_iinc_4 M (_) dX2_roundsAtAStroke_46 rfl (by decide) rfl ?_
      refine r_goto M dX2_roundsAtAStroke_49 (tgt := 7) rfl ?_
      first | (simp only [tkN, rdN, if_pos hq] at hP; exact hP) | (simp only [tkN, rdN, if_neg hq] at hP; exact hP)
    refine r_if_eq M dX2_roundsAtAStroke_20 (tgt := 46) rfl (by omega) (fun b20 => ?_) (fun b20 => by omega)
    refine r_iinc_4 M (_) dX2_roundsAtAStroke_46 rfl (by decide) rfl ?_
    refine r_goto M dX2_roundsAtAStroke_49 (tgt := 7) rfl ?_
    first | (simp only [tkN, rdN, if_pos hq] at hP; exact hP) | (simp only [tkN, rdN, if_neg hq] at hP; exact hP)
/-- the walk of one stroke -/
theorem wp_smP {S : St} {p : Nat → Int} (hS : smP S) {x : (Nat → Int) × Int} (hx : okP (S 9 0) x) : smP (wp S x.1) := fun k hk => by
  have h := hS k hk
  have h2 := hx.1 k hk
  rw [wp_ne S _ (show ¬ 8 = 10 by omega), wp_ne S _ (show ¬ 9 = 10 by omega), wp_10]
  omega
theorem cn_giveCoins {rest : Int} (hS : smP S) (hx : okP (S 9 0) (S 10 0, rest)) (h : Ret (some (vI (strokes (S 8 0) (S 9 0) (S 10 0, rest) 12).2)) (wp S (strokes (S 8 0) (S 9 0) (S 10 0, rest) 12).1)) : Cn g yX2_giveCoins cX2_giveCoins 6 (some .int) 2 45 0 [vR 3 0, vI rest] S Ret Thr := by
  refine enter (L := [some (vR 3 0), some (vI rest), none, none, none, none]) (by decide +kernel) (Nat.le_of_ble_eq_true rfl) rfl (fun K MM => ?_)
  have M := MM.mk
  generalize hw8 : S 8 0 = w at *
  generalize hw9 : S 9 0 = b at *
  have hok := fun n => strokes_ok (w := w) hx n
  have r8 : ∀ p, (wp S p) 8 0 = w := fun p => by rw [wp_ne S p (by omega), hw8]
  have r9 : ∀ p, (wp S p) 9 0 = b := fun p => by rw [wp_ne S p (by omega), hw9]
  have hS2 : ∀ x : (Nat → Int) × Int, okP b x → smP (wp S x.1) := fun x hx => wp_smP (p := x.1) hS (by rw [hw9]; exact hx)
  refine r_iload_n M dX2_giveCoins_0 rfl ?_
  refine r_istore_2 M dX2_giveCoins_1 (by decide) rfl ?_
  refine r_iconst M dX2_giveCoins_2 ?_
  refine r_istore_3 M dX2_giveCoins_3 (by decide) rfl ?_
  refine k_S (S1 := wp S (S 10 0)) ?_ (wp_self S).symm
  -- the outer loop: after j strokes; once nothing is left it goes out
  have hend : ∀ j, j ≤ 12 → ¬ 0 < (strokes w b (S 10 0, rest) j).2 → ∀ r, j + r = 12 → strokes w b (S 10 0, rest) 12 = strokes w b (S 10 0, rest) j := by
    intro j hj hn r hr
    have : ∀ r, strokes w b (S 10 0, rest) (j + r) = strokes w b (S 10 0, rest) j := by
      intro r
      induction r with
      | zero => rfl
      | succ r ih =>
        show strokes w b (S 10 0, rest) (j + r + 1) = _
        rw [strokes_succ, ih, if_neg hn]
    rw [← hr, this]
  have hout : ∀ (j : Nat) (c4 c5 : Option AV), j ≤ 12 → K 0 4 [some (vR 3 0), some (vI rest), some (vI (strokes w b (S 10 0, rest) j).2), some (vI (j : Int)), c4, c5] [] (wp S (strokes w b (S 10 0, rest) j).1) := by
    have hloop := up_loop (P := fun j => ∀ (c4 c5 : Option AV), K 0 4 [some (vR 3 0), some (vI rest), some (vI (strokes w b (S 10 0, rest) j).2), some (vI (j : Int)), c4, c5] [] (wp S (strokes w b (S 10 0, rest) j).1)) (m := 12) ?_ ?_
    · exact fun j c4 c5 hj => hloop j hj c4 c5
    · intro c4 c5
      refine r_iload_n M dX2_giveCoins_4 rfl ?_
      refine r_bipush M dX2_giveCoins_5 rfl ?_
      refine r_icmp_ge M dX2_giveCoins_7 (tgt := 75) rfl (by omega) (fun b7 => ?_) (fun b7 => by omega)
      refine r_iload_n M dX2_giveCoins_75 rfl ?_
      refine r_iret MM dX2_giveCoins_76 ?_
      exact h
    · intro j hj hP c4 c5
      have ho := hok j
      have ho1 := ho.2
      generalize hxj : strokes w b (S 10 0, rest) j = x at *
      refine r_iload_n M dX2_giveCoins_4 rfl ?_
      refine r_bipush M dX2_giveCoins_5 rfl ?_
      refine r_icmp_ge M dX2_giveCoins_7 (tgt := 75) rfl (by omega) (fun b7 => by omega) (fun b7 => ?_)
      refine r_iload_n M dX2_giveCoins_10 rfl ?_
      refine r_if_le M dX2_giveCoins_11 (tgt := 75) rfl (by omega) (fun b11 => ?_) (fun b11 => ?_)
      · refine r_iload_n M dX2_giveCoins_75 rfl ?_
        refine r_iret MM dX2_giveCoins_76 ?_
        exact ret_vS h (by rw [hend j (by omega) (by rw [hxj]; omega) (12 - j) (by omega), hxj]) (by rw [hend j (by omega) (by rw [hxj]; omega) (12 - j) (by omega), hxj])
      refine r_aload_n M dX2_giveCoins_14 rfl ?_
      refine r_iload_n M dX2_giveCoins_15 rfl ?_
      refine r_callV1 MM dX2_giveCoins_16 ck_X2_31 vk_X2_roundsAtAStroke ⟨by omega, by omega, by omega⟩ ⟨by decide, by decide, rfl⟩ (by decide) (Nat.le_of_ble_eq_true rfl) (cn_rounds (r8 _) (r9 _) (wp_10 _ _) (by omega) (hS2 x ho) ?_)
      refine r_istore_4 M dX2_giveCoins_19 (by decide) rfl ?_
      refine r_iconst M dX2_giveCoins_21 ?_
      refine r_istore_5 M dX2_giveCoins_22 (by decide) rfl ?_
      refine fz (P := fun l => K 0 24 [some (vR 3 0), some (vI rest), some (vI (gvN w b (rounds w b x.1 x.2) x.1 x.2 l).2), some (vI (j : Int)), some (vI (rounds w b x.1 x.2)), some (vI (l : Int))] [] (wp S (gvN w b (rounds w b x.1 x.2) x.1 x.2 l).1)) (m := 10) ?_ ?_
      · rw [strokes_succ, hxj, if_pos (by omega)] at hP
        refine r_iload M dX2_giveCoins_24 rfl ?_
        refine r_bipush M dX2_giveCoins_26 rfl ?_
        refine r_icmp_ge M dX2_giveCoins_28 (tgt := 69) rfl (by omega) (fun b28 => ?_) (fun b28 => by omega)
        refine r_iinc_3 M (((j + 1 : Nat) : Int)) dX2_giveCoins_69 (by omega) (by decide) rfl ?_
        refine r_goto M dX2_giveCoins_72 (tgt := 4) rfl ?_
        exact hP _ _
      · intro l hl9 hQ
        have hg := gvN_ok (w := w) ho (by omega : 0 < x.2) l (by omega)
        have hg2 := hg.2
        have hg1 := hg.1 l hl9
        have hc0 : 0 ≤ rounds w b x.1 x.2 ∧ rounds w b x.1 x.2 ≤ 1000000000 := by
          have t1 := tkN_rng w b x.1 10
          have t2 := rdN_le w b x.1 x.2 10
          unfold rounds
          split <;> omega
        rw [gvN_succ] at hQ
        generalize hyl : gvN w b (rounds w b x.1 x.2) x.1 x.2 l = y at *
        refine r_iload M dX2_giveCoins_24 rfl ?_
        refine r_bipush M dX2_giveCoins_26 rfl ?_
        refine r_icmp_ge M dX2_giveCoins_28 (tgt := 69) rfl (by omega) (fun b28 => by omega) (fun b28 => ?_)
        refine r_aload_n M dX2_giveCoins_31 rfl ?_
        refine r_iload M dX2_giveCoins_32 rfl ?_
        refine r_callV1 MM dX2_giveCoins_34 ck_X2_34 vk_X2_canTake ⟨by omega, by omega, by omega⟩ ⟨by decide, by decide, rfl⟩ (by decide) (Nat.le_of_ble_eq_true rfl) (cn_canTake (r8 _) (r9 _) (wp_10 _ _) hl9 (hS2 y hg) (fun hq => ?_) (fun hq => ?_))
        · refine r_if_eq M dX2_giveCoins_37 (tgt := 63) rfl (by omega) (fun b37 => by omega) (fun b37 => ?_)
          refine r_iload M dX2_giveCoins_40 rfl ?_
          refine r_iload_n M dX2_giveCoins_42 rfl ?_
          refine r_icmp_gt M dX2_giveCoins_43 (tgt := 63) rfl (by omega) (fun b43 => ?_) (fun b43 => ?_)
          · refine r_iinc_5 M (((l + 1 : Nat) : Int)) dX2_giveCoins_63 (by omega) (by decide) rfl ?_
            refine r_goto M dX2_giveCoins_66 (tgt := 24) rfl ?_
            first | (rw [if_pos ⟨hq, by omega⟩] at hQ; exact k_S hQ (wp_up _ _ _ _)) | (rw [if_neg (fun q => hq q.1)] at hQ; exact hQ) | (rw [if_neg (fun q => by have := q.2; omega)] at hQ; exact hQ)
          refine r_aload_n M dX2_giveCoins_46 rfl ?_
          refine r_getR M dX2_giveCoins_47 fk_X2_18 (by decide) rfl ?_
          refine r_iload M dX2_giveCoins_50 rfl ?_
          refine r_dup2 M dX2_giveCoins_52 ?_
          refine r_ialdV M (_) dX2_giveCoins_53 ⟨rfl, by decide⟩ (by decide) rfl (show (_ : Nat) < 10 by omega) (Nat.le_of_ble_eq_true rfl) (y.1 l) (by rw [wp_10]) ?_
          refine r_iload M dX2_giveCoins_54 rfl ?_
          refine r_iadd M dX2_giveCoins_56 ?_
          refine r_iast M (_) dX2_giveCoins_57 ⟨rfl, by decide⟩ (by decide) rfl (show (_ : Nat) < 10 by omega) (Nat.le_of_ble_eq_true rfl) ?_
          refine r_iload_n M dX2_giveCoins_58 rfl ?_
          refine r_iload M dX2_giveCoins_59 rfl ?_
          refine r_isub M dX2_giveCoins_61 ?_
          refine r_istore_2 M dX2_giveCoins_62 (by decide) rfl ?_
          refine r_iinc_5 M (((l + 1 : Nat) : Int)) dX2_giveCoins_63 (by omega) (by decide) rfl ?_
          refine r_goto M dX2_giveCoins_66 (tgt := 24) rfl ?_
          first | (rw [if_pos ⟨hq, by omega⟩] at hQ; exact k_S hQ (wp_up _ _ _ _)) | (rw [if_neg (fun q => hq q.1)] at hQ; exact hQ) | (rw [if_neg (fun q => by have := q.2; omega)] at hQ; exact hQ)
        refine r_if_eq M dX2_giveCoins_37 (tgt := 63) rfl (by omega) (fun b37 => ?_) (fun b37 => by omega)
        refine r_iinc_5 M (((l + 1 : Nat) : Int)) dX2_giveCoins_63 (by omega) (by decide) rfl ?_
        refine r_goto M dX2_giveCoins_66 (tgt := 24) rfl ?_
        first | (rw [if_pos ⟨hq, by omega⟩] at hQ; exact k_S hQ (wp_up _ _ _ _)) | (rw [if_neg (fun q => hq q.1)] at hQ; exact hQ) | (rw [if_neg (fun q => by have := q.2; omega)] at hQ; exact hQ)
  refine hout 0 _ _ (by omega)
end XParting
