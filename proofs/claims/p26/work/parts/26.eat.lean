/-! ===== DefaultFund: how amounts are parted among members ===== -/
theorem rounds_nn {w b p : Nat → Int} {left : Int} (hl : 0 ≤ left) : 0 ≤ rounds w b p left := by
  unfold rounds
  split
  · omega
  · omega
theorem gvN_dec {w b : Nat → Int} {coins : Int} (hc : 0 ≤ coins) (p : Nat → Int) (left : Int) : ∀ m, (gvN w b coins p left m).2 ≤ left
  | 0 => Int.le_refl _
  | m + 1 => by
    have h := gvN_dec (w := w) (b := b) hc p left m
    rw [gvN_succ]
    split
    · show _ - _ ≤ _
      omega
    · exact h
theorem strokes_dec {w b : Nat → Int} {x : (Nat → Int) × Int} (hx : okP b x) : ∀ n, (strokes w b x n).2 ≤ x.2
  | 0 => Int.le_refl _
  | n + 1 => by
    have h := strokes_dec (w := w) hx n
    rw [strokes_succ]
    split
    · rename_i hl
      have := gvN_dec (w := w) (b := b) (rounds_nn (w := w) (b := b) (p := (strokes w b x n).1) (Int.le_of_lt hl)) (strokes w b x n).1 (strokes w b x n).2 10
      exact Int.le_trans this h
    · exact h
theorem partR_ok {w b po : Nat → Int} {a : Int} (h : okW w b a) : (∀ k, k < 10 → 0 ≤ (partR w b po a).1 k ∧ (partR w b po a).1 k ≤ b k) ∧ 0 ≤ (partR w b po a).2 ∧ (partR w b po a).2 ≤ a := by
  unfold partR
  split
  · refine ⟨fun k hk => ?_, h.2.1, Int.le_refl _⟩
    show 0 ≤ zf po 10 k ∧ zf po 10 k ≤ b k
    unfold zf
    rw [if_pos hk]
    have := h.1 k hk
    omega
  · rename_i hs
    have h0 := p0_ok (po := po) h (by omega)
    have h1 := strokes_ok (w := w) h0 12
    have h2 := strokes_dec (w := w) h0 12
    have e : ∀ k, k < 10 → p0f w b po a k = min (a * w k / smN w 10) (b k) := fun k hk => by unfold p0f; rw [if_pos hk]
    have h4 : 0 ≤ smN (p0f w b po a) 10 := by
      refine (smN_nn (B := 100000000) (fun k hk => ?_)).1
      rw [e k hk]
      have := by_rng h (by omega) hk
      have h5 := h.1 k hk
      omega
    refine ⟨h1.1, h1.2.1, ?_⟩
    have h3 : (p0f w b po a, a - smN (p0f w b po a) 10).2 = a - smN (p0f w b po a) 10 := rfl
    omega
def cN (S : St) : Nat := (S 0 0 3).toNat
def entS (S : St) (w b : Nat → Int) (l : Nat) : St := fun t i k => if t = 8 then (if i = 0 ∧ k < l then w k else S 8 i k) else if t = 9 then (if i = 0 ∧ k < l then b k else S 9 i k) else S t i k
theorem entS_0 (S : St) (w b : Nat → Int) : entS S w b 0 = S := by
  funext t i k
  unfold entS
  by_cases h8 : t = 8
  · rw [if_pos h8, if_neg (by omega), h8]
  · rw [if_neg h8]
    by_cases h9 : t = 9
    · rw [if_pos h9, if_neg (by omega), h9]
    · rw [if_neg h9]
theorem entS_s {S : St} {w b : Nat → Int} {l : Nat} {x y : Int} (hx : x = w l) (hy : y = b l) : enterS (entS S w b l) l x y = entS S w b (l + 1) := by
  subst hx; subst hy
  funext t i k
  by_cases h9 : t = 9
  · subst h9
    show (if 9 = 9 ∧ i = 0 ∧ k = l then b l else if 9 = 8 ∧ i = 0 ∧ k = l then w l else if i = 0 ∧ k < l then b k else S 9 i k) = if i = 0 ∧ k < l + 1 then b k else S 9 i k
    rcases Nat.lt_trichotomy k l with hk | hk | hk
    · simp [show ¬ k = l by omega, hk, show k < l + 1 by omega]
    · subst hk
      by_cases hi : i = 0 <;> simp [hi]
    · simp [show ¬ k = l by omega, show ¬ k < l by omega, show ¬ k < l + 1 by omega]
  · by_cases h8 : t = 8
    · subst h8
      show (if 8 = 9 ∧ i = 0 ∧ k = l then b l else if 8 = 8 ∧ i = 0 ∧ k = l then w l else if i = 0 ∧ k < l then w k else S 8 i k) = if i = 0 ∧ k < l + 1 then w k else S 8 i k
      rcases Nat.lt_trichotomy k l with hk | hk | hk
      · simp [show ¬ k = l by omega, hk, show k < l + 1 by omega]
      · subst hk
        by_cases hi : i = 0 <;> simp [hi]
      · simp [show ¬ k = l by omega, show ¬ k < l by omega, show ¬ k < l + 1 by omega]
    · unfold enterS up3 entS
      simp only [if_neg (fun q : t = 9 ∧ i = 0 ∧ k = l => h9 q.1), if_neg (fun q : t = 8 ∧ i = 0 ∧ k = l => h8 q.1), if_neg h8, if_neg h9]
/-- a field of the first l members is f -/
def fS (S : St) (fld : Nat) (f : Nat → Int) (l : Nat) : St := fun t i k => if t = 4 ∧ k = fld ∧ i < l then f i else S t i k
theorem fS_0 (S : St) (fld : Nat) (f : Nat → Int) : fS S fld f 0 = S := by
  funext t i k
  unfold fS
  rw [if_neg (by omega)]
theorem fS_s {S : St} {fld : Nat} {f : Nat → Int} {l : Nat} {x : Int} (hx : x = f l) : up3 (fS S fld f l) 4 l fld x = fS S fld f (l + 1) := by
  subst hx
  funext t i k
  unfold up3 fS
  by_cases h : t = 4 ∧ i = l ∧ k = fld
  · rw [if_pos h, if_pos (by omega), h.2.1]
  · rw [if_neg h]
    by_cases h2 : t = 4 ∧ k = fld ∧ i < l
    · rw [if_pos h2, if_pos (by omega)]
    · rw [if_neg h2, if_neg (by omega)]
theorem fS_at (S : St) (fld : Nat) (f : Nat → Int) (l : Nat) : fS S fld f l 4 l fld = S 4 l fld := by
  unfold fS
  rw [if_neg (by omega)]
def prS (S : St) (w b : Nat → Int) (a : Int) : (Nat → Int) × Int := partR (entS S w b (cN S) 8 0) (entS S w b (cN S) 9 0) (S 10 0) a
def eatS (S : St) (w b : Nat → Int) (a : Int) (fld : Nat) (f : Nat → Int) : St := fS (wp (entS S w b (cN S)) (prS S w b a).1) fld f (cN S)
theorem okW_ent {S : St} (hP : smP S) {w b : Nat → Int} {a : Int} {l : Nat} (hw : ∀ k, k < 10 → (0 ≤ w k ∧ w k ≤ 100000000) ∧ 0 ≤ b k ∧ b k ≤ 100000000) (ha : 0 ≤ a ∧ a ≤ 100000000) : okW (entS S w b l 8 0) (entS S w b l 9 0) a := by
  refine ⟨fun k hk => ?_, ha⟩
  have h1 := hw k hk
  have h2 := hP k hk
  have e8 : entS S w b l 8 0 k = if 0 = 0 ∧ k < l then w k else S 8 0 k := rfl
  have e9 : entS S w b l 9 0 k = if 0 = 0 ∧ k < l then b k else S 9 0 k := rfl
  rw [e8, e9]
  constructor
  · split <;> omega
  · split <;> omega
theorem CI_set {S S' : St} (hI : CI S) (h0 : S' 0 = S 0) (h2 : S' 2 = S 2) (h7 : S' 7 = S 7) (hP : smP S') (h4 : ∀ i, i < 10 → MI S' i) : CI S' := by
  obtain ⟨a1, a2, a3, a4, a5, a6, a7⟩ := hI
  refine ⟨by rw [h0]; exact a1, by rw [h0]; exact a2, by rw [h0]; exact a3, by rw [h0]; exact a4, ?_, hP, h4⟩
  unfold smA
  rw [h2, h7]
  exact a5
theorem CI_eat {S : St} (hI : CI S) {w b : Nat → Int} {a : Int} (hw : ∀ k, k < 10 → (0 ≤ w k ∧ w k ≤ 100000000) ∧ 0 ≤ b k ∧ b k ≤ 100000000) (ha : 0 ≤ a ∧ a ≤ 100000000) {fld : Nat} {f : Nat → Int}
    (hf : fld = 5 ∧ (∀ i, i < cN S → 0 ≤ f i ∧ f i ≤ 2000000) ∨ fld = 7 ∧ (∀ i, i < cN S → 0 ≤ f i ∧ f i ≤ 1000000) ∨ fld = 10) : CI (eatS S w b a fld f) := by
  have hP := hI.2.2.2.2.2.1
  have hk := okW_ent (l := cN S) hP hw ha
  have hp := partR_ok (po := S 10 0) hk
  refine CI_set hI rfl rfl rfl (fun k h => ?_) (fun i h => ?_)
  · have h1 := hk.1 k h
    have h2 := hp.1 k h
    have e10 : eatS S w b a fld f 10 0 k = (prS S w b a).1 k := rfl
    have e8 : eatS S w b a fld f 8 0 k = entS S w b (cN S) 8 0 k := rfl
    have e9 : eatS S w b a fld f 9 0 k = entS S w b (cN S) 9 0 k := rfl
    rw [e8, e9, e10]
    unfold prS
    omega
  · have hm := hI.mem h
    have e : ∀ k, eatS S w b a fld f 4 i k = if k = fld ∧ i < cN S then f i else S 4 i k := fun k => by
      show (if 4 = 4 ∧ k = fld ∧ i < cN S then f i else S 4 i k) = _
      simp
    have e5 : ∀ k, eatS S w b a fld f 5 i k = S 5 i k := fun k => rfl
    unfold MI at hm ⊢
    simp only [e, e5]
    rcases hf with ⟨rfl, hf⟩ | ⟨rfl, hf⟩ | rfl
    · simp only [show (1 : Nat) = 5 ↔ False by decide, show (2 : Nat) = 5 ↔ False by decide, show (3 : Nat) = 5 ↔ False by decide, show (4 : Nat) = 5 ↔ False by decide, show (6 : Nat) = 5 ↔ False by decide, show (7 : Nat) = 5 ↔ False by decide, show (8 : Nat) = 5 ↔ False by decide, show (9 : Nat) = 5 ↔ False by decide, show (12 : Nat) = 5 ↔ False by decide, false_and, if_false, true_and]
      refine ⟨hm.1, hm.2.1, hm.2.2.1, hm.2.2.2.1, ?_, hm.2.2.2.2.2⟩
      split
      · rename_i q; exact hf i q
      · exact hm.2.2.2.2.1
    · simp only [show (1 : Nat) = 7 ↔ False by decide, show (2 : Nat) = 7 ↔ False by decide, show (3 : Nat) = 7 ↔ False by decide, show (4 : Nat) = 7 ↔ False by decide, show (6 : Nat) = 7 ↔ False by decide, show (5 : Nat) = 7 ↔ False by decide, show (8 : Nat) = 7 ↔ False by decide, show (9 : Nat) = 7 ↔ False by decide, show (12 : Nat) = 7 ↔ False by decide, false_and, if_false, true_and]
      refine ⟨hm.1, hm.2.1, hm.2.2.1, hm.2.2.2.1, hm.2.2.2.2.1, hm.2.2.2.2.2.1, ?_, hm.2.2.2.2.2.2.2⟩
      split
      · rename_i q; exact hf i q
      · exact hm.2.2.2.2.2.2.1
    · simp only [show (1 : Nat) = 10 ↔ False by decide, show (2 : Nat) = 10 ↔ False by decide, show (3 : Nat) = 10 ↔ False by decide, show (4 : Nat) = 10 ↔ False by decide, show (6 : Nat) = 10 ↔ False by decide, show (5 : Nat) = 10 ↔ False by decide, show (8 : Nat) = 10 ↔ False by decide, show (9 : Nat) = 10 ↔ False by decide, show (12 : Nat) = 10 ↔ False by decide, show (7 : Nat) = 10 ↔ False by decide, false_and, if_false]
      exact hm
def shW (S : St) (j : Int) : Nat → Int := fun i => if actv S i ∧ S 4 i 9 = j then S 4 i 5 else 0
def asW (S : St) : Nat → Int := fun i => if actv S i then S 4 i 12 else 0
def asB (S : St) : Nat → Int := fun i => if S 4 i 3 = 1 then asW S i / 2 else asW S i
def gnW (S : St) : Nat → Int := fun i => if actv S i then S 4 i 7 else 0
def eaSh (S : St) (a j : Int) : St × Int := (eatS S (shW S j) (fun i => S 4 i 5) a 5 (fun i => S 4 i 5 - (prS S (shW S j) (fun i => S 4 i 5) a).1 i), (prS S (shW S j) (fun i => S 4 i 5) a).2)
def eaAs (S : St) (a : Int) : St × Int := (eatS S (asW S) (asB S) a 10 (fun i => S 4 i 10 + (prS S (asW S) (asB S) a).1 i), (prS S (asW S) (asB S) a).2)
def eaGn (S : St) (a : Int) : St × Int := (eatS S (gnW S) (fun i => S 4 i 7) a 7 (fun i => S 4 i 7 - (prS S (gnW S) (fun i => S 4 i 7) a).1 i), (prS S (gnW S) (fun i => S 4 i 7) a).2)
theorem shW_ok {S : St} (hI : CI S) (j : Int) : ∀ k, k < 10 → (0 ≤ shW S j k ∧ shW S j k ≤ 100000000) ∧ 0 ≤ S 4 k 5 ∧ S 4 k 5 ≤ 100000000 := fun k hk => by
  have h := (hI.mem hk).2.2.2.2.1
  unfold shW
  split <;> omega
theorem asW_ok {S : St} (hI : CI S) : ∀ k, k < 10 → (0 ≤ asW S k ∧ asW S k ≤ 100000000) ∧ 0 ≤ asB S k ∧ asB S k ≤ 100000000 := fun k hk => by
  have h := (hI.mem hk).2.2.2.2.2.2.2.2.2.1
  have h2 : 0 ≤ asW S k ∧ asW S k ≤ 100000000 := by
    unfold asW
    split <;> omega
  unfold asB
  split <;> omega
theorem gnW_ok {S : St} (hI : CI S) : ∀ k, k < 10 → (0 ≤ gnW S k ∧ gnW S k ≤ 100000000) ∧ 0 ≤ S 4 k 7 ∧ S 4 k 7 ≤ 100000000 := fun k hk => by
  have h := (hI.mem hk).2.2.2.2.2.2.1
  unfold gnW
  split <;> omega
section XEat
variable {g : Gl} {S : St} {Ret : Option AV → St → Prop} {Thr : String → St → Prop}
theorem cn_isActiveV {i : Nat} {v : Int} (hi : i < 10) (hv : S 4 i 3 = v) (hr : -2147483648 ≤ v ∧ v ≤ 2147483647) (h1 : v = 0 ∨ v = 1 → Ret (some (vI 1)) S) (h0 : ¬ (v = 0 ∨ v = 1) → Ret (some (vI 0)) S) : Cn g yX1_isActive cX1_isActive 1 (some .boolean) 0 0 0 [vR 4 i] S Ret Thr := by
  subst hv
  exact cn_isActive hi hr h1 h0
theorem cn_partOfV {k : Nat} {v : Int} (hk : k < 10) (hv : S 10 0 k = v) (h : Ret (some (vI v)) S) : Cn g yX2_partOf cX2_partOf 2 (some .int) 0 0 0 [vR 3 0, vI (k : Int)] S Ret Thr := by
  subst hv
  exact cn_partOf hk h
theorem cN_le (hI : CI S) : cN S ≤ 10 := by
  have := hI.cnt
  unfold cN
  omega
theorem cN_eq (hI : CI S) : ((cN S : Nat) : Int) = S 0 0 3 := by
  have := hI.cnt
  unfold cN
  omega
theorem cn_partE {w b : Nat → Int} {a : Int} (hI : CI S) (hw : ∀ k, k < 10 → (0 ≤ w k ∧ w k ≤ 100000000) ∧ 0 ≤ b k ∧ b k ≤ 100000000) (ha : 0 ≤ a ∧ a ≤ 100000000) (h : Ret (some (vI (prS S w b a).2)) (wp (entS S w b (cN S)) (prS S w b a).1)) : Cn g yX2_part cX2_part 6 (some .int) 3 70 0 [vR 3 0, vI a] (entS S w b (cN S)) Ret Thr :=
  cn_part rfl rfl rfl (okW_ent hI.2.2.2.2.2.1 hw ha) h
theorem cn_eatShares {a j : Int} (hj : 0 ≤ j ∧ j ≤ 1) (hI : CI S) (ha : 0 ≤ a ∧ a ≤ 100000000) (h : Ret (some (vI (eaSh S a j).2)) (eaSh S a j).1) : Cn g yX3_eatShares cX3_eatShares 6 (some .int) 4 95 0 [vR 0 0, vI a, vI j] S Ret Thr := by
  refine enter (L := [some (vR 0 0), some (vI a), some (vI j), none, none, none]) (by decide +kernel) (Nat.le_of_ble_eq_true rfl) rfl (fun K MM => ?_)
  have M := MM.mk
  have hc := hI.cnt
  have hcl := cN_le hI
  have hce := cN_eq hI
  refine r_iconst M dX3_eatShares_0 ?_
  refine r_istore_3 M dX3_eatShares_1 (by decide) rfl ?_
  refine k_S (S1 := entS S (shW S j) (fun i => S 4 i 5) 0) ?_ (entS_0 _ _ _).symm
  refine fz (P := fun l => ∀ c4 c5, K 0 2 [some (vR 0 0), some (vI a), some (vI j), some (vI (l : Int)), c4, c5] [] (entS S (shW S j) (fun i => S 4 i 5) l)) (m := cN S) ?_ ?_ _ _
  · intro c4 c5
    refine r_iload_n M dX3_eatShares_2 rfl ?_
    refine r_aload_n M dX3_eatShares_3 rfl ?_
    refine r_getV M dX3_eatShares_4 fk_X3_29 (by decide) rfl (S 0 0 3) (by rfl) ?_
    refine r_icmp_ge M dX3_eatShares_7 (tgt := 75) rfl (by omega) (fun b7 => ?_) (fun b7 => by omega)
    refine r_aload_n M dX3_eatShares_75 rfl ?_
    refine r_getR M dX3_eatShares_76 fk_X3_25 (by decide) rfl ?_
    refine r_iload_n M dX3_eatShares_79 rfl ?_
    refine r_callV1 MM dX3_eatShares_80 ck_X3_106 vk_X2_part ⟨by omega, by omega, by omega⟩ ⟨by decide, by decide, rfl⟩ (by decide) (Nat.le_of_ble_eq_true rfl) (cn_partE hI (shW_ok hI j) ha ?_)
    refine r_istore_3 M dX3_eatShares_83 (by decide) rfl ?_
    refine r_iconst M dX3_eatShares_84 ?_
    refine r_istore_4 M dX3_eatShares_85 (by decide) rfl ?_
    refine k_S (S1 := fS (wp (entS S (shW S j) (fun i => S 4 i 5) (cN S)) (prS S (shW S j) (fun i => S 4 i 5) a).1) 5 (fun i => S 4 i 5 - (prS S (shW S j) (fun i => S 4 i 5) a).1 i) 0) ?_ (fS_0 _ _ _).symm
    refine fz (P := fun l => K 0 87 [some (vR 0 0), some (vI a), some (vI j), some (vI (prS S (shW S j) (fun i => S 4 i 5) a).2), some (vI (l : Int)), c5] [] (fS (wp (entS S (shW S j) (fun i => S 4 i 5) (cN S)) (prS S (shW S j) (fun i => S 4 i 5) a).1) 5 (fun i => S 4 i 5 - (prS S (shW S j) (fun i => S 4 i 5) a).1 i) l)) (m := cN S) ?_ ?_
    · refine r_iload M dX3_eatShares_87 rfl ?_
      refine r_aload_n M dX3_eatShares_89 rfl ?_
      refine r_getV M dX3_eatShares_90 fk_X3_29 (by decide) rfl (S 0 0 3) (by rfl) ?_
      refine r_icmp_ge M dX3_eatShares_93 (tgt := 126) rfl (by omega) (fun b93 => ?_) (fun b93 => by omega)
      refine r_iload_n M dX3_eatShares_126 rfl ?_
      refine r_iret MM dX3_eatShares_127 ?_
      exact h
    · intro l hl hP
      refine r_iload M dX3_eatShares_87 rfl ?_
      refine r_aload_n M dX3_eatShares_89 rfl ?_
      refine r_getV M dX3_eatShares_90 fk_X3_29 (by decide) rfl (S 0 0 3) (by rfl) ?_
      refine r_icmp_ge M dX3_eatShares_93 (tgt := 126) rfl (by omega) (fun b93 => by omega) (fun b93 => ?_)
      refine r_aload_n M dX3_eatShares_96 rfl ?_
      refine r_getR M dX3_eatShares_97 fk_X3_11 (by decide) rfl ?_
      refine r_iload M dX3_eatShares_100 rfl ?_
      refine r_aaldM M (_) dX3_eatShares_102 rfl (by omega) ?_
      refine r_dupR M dX3_eatShares_103 ?_
      refine r_getV M dX3_eatShares_104 fk_X3_116 (show (_ : Nat) < 10 by omega) rfl (S 4 l 5) (by exact fS_at _ _ _ _) ?_
      refine r_aload_n M dX3_eatShares_107 rfl ?_
      refine r_getR M dX3_eatShares_108 fk_X3_25 (by decide) rfl ?_
      refine r_iload M dX3_eatShares_111 rfl ?_
      refine r_callV1 MM dX3_eatShares_113 ck_X3_110 vk_X2_partOf ⟨by omega, by omega, by omega⟩ ⟨by decide, by decide, rfl⟩ (by decide) (Nat.le_of_ble_eq_true rfl) (cn_partOfV (by omega) rfl ?_)
      refine r_isub M dX3_eatShares_116 ?_
      refine r_putI M dX3_eatShares_117 pk_X3_116 (show (_ : Nat) < 10 by omega) ?_
      refine r_iinc_4 M (_) dX3_eatShares_120 rfl (by decide) rfl ?_
      refine r_goto M dX3_eatShares_123 (tgt := 87) rfl ?_
      exact k_S hP (fS_s rfl)
  · intro l hl hP c4 c5
    have hm := hI.mem (show l < 10 by omega)
    unfold MI at hm
    refine r_iload_n M dX3_eatShares_2 rfl ?_
    refine r_aload_n M dX3_eatShares_3 rfl ?_
    refine r_getV M dX3_eatShares_4 fk_X3_29 (by decide) rfl (S 0 0 3) (by rfl) ?_
    refine r_icmp_ge M dX3_eatShares_7 (tgt := 75) rfl (by omega) (fun b7 => by omega) (fun b7 => ?_)
    refine r_aload_n M dX3_eatShares_10 rfl ?_
    refine r_getR M dX3_eatShares_11 fk_X3_11 (by decide) rfl ?_
    refine r_iload_n M dX3_eatShares_14 rfl ?_
    refine r_aaldM M (_) dX3_eatShares_15 rfl (by omega) ?_
    refine r_astore_4 M dX3_eatShares_16 (by decide) rfl ?_
    refine r_aload M dX3_eatShares_18 rfl ?_
    refine r_callV0 MM dX3_eatShares_20 ck_X3_96 vk_X1_isActive ⟨by omega, by omega, by omega⟩ ⟨by decide, by decide, rfl⟩ (show (_ : Nat) < 10 by omega) (Nat.le_of_ble_eq_true rfl) (cn_isActiveV (by omega) (v := S 4 l 3) rfl (by omega) (fun hq => ?_) (fun hq => ?_))
    · refine r_if_eq M dX3_eatShares_23 (tgt := 39) rfl (by omega) (fun b23 => by omega) (fun b23 => ?_)
      refine r_aload M dX3_eatShares_26 rfl ?_
      refine r_getV M dX3_eatShares_28 fk_X3_164 (show (_ : Nat) < 10 by omega) rfl (S 4 l 9) (by rfl) ?_
      refine r_iload_n M dX3_eatShares_31 rfl ?_
      refine r_icmp_ne M dX3_eatShares_32 (tgt := 39) rfl (by omega) (fun b32 => ?_) (fun b32 => ?_)
      · refine r_iconst M dX3_eatShares_39 ?_
        refine r_istore_5 M dX3_eatShares_40 (by decide) rfl ?_
        refine r_aload_n M dX3_eatShares_42 rfl ?_
        refine r_getR M dX3_eatShares_43 fk_X3_25 (by decide) rfl ?_
        refine r_iload_n M dX3_eatShares_46 rfl ?_
        refine r_iload M dX3_eatShares_47 rfl ?_
        refine r_if_eq M dX3_eatShares_49 (tgt := 60) rfl (by omega) (fun b49 => ?_) (fun b49 => ?_)
        · refine r_iconst M dX3_eatShares_60 ?_
          refine r_aload M dX3_eatShares_61 rfl ?_
          refine r_getV M dX3_eatShares_63 fk_X3_116 (show (_ : Nat) < 10 by omega) rfl (S 4 l 5) (by rfl) ?_
          refine r_callV3 MM dX3_eatShares_66 ck_X3_103 vk_X2_enter ⟨by omega, by omega, by omega⟩ ⟨by decide, by decide, rfl⟩ (by decide) (Nat.le_of_ble_eq_true rfl) (cn_enter (by omega) _ _ ?_)
          refine r_iinc_3 M (_) dX3_eatShares_69 rfl (by decide) rfl ?_
          refine r_goto M dX3_eatShares_72 (tgt := 2) rfl ?_
          first | (exfalso; omega) | exact k_S (hP _ _) (entS_s (by unfold shW; first | (rw [if_pos ⟨hq, by omega⟩]; done) | (rw [if_neg (fun q => hq q.1)]; done) | (rw [if_neg (fun q => by have := q.2; omega)]; done)) rfl)
        refine r_aload M dX3_eatShares_52 rfl ?_
        refine r_getV M dX3_eatShares_54 fk_X3_116 (show (_ : Nat) < 10 by omega) rfl (S 4 l 5) (by rfl) ?_
        refine r_goto M dX3_eatShares_57 (tgt := 61) rfl ?_
        refine r_aload M dX3_eatShares_61 rfl ?_
        refine r_getV M dX3_eatShares_63 fk_X3_116 (show (_ : Nat) < 10 by omega) rfl (S 4 l 5) (by rfl) ?_
        refine r_callV3 MM dX3_eatShares_66 ck_X3_103 vk_X2_enter ⟨by omega, by omega, by omega⟩ ⟨by decide, by decide, rfl⟩ (by decide) (Nat.le_of_ble_eq_true rfl) (cn_enter (by omega) _ _ ?_)
        refine r_iinc_3 M (_) dX3_eatShares_69 rfl (by decide) rfl ?_
        refine r_goto M dX3_eatShares_72 (tgt := 2) rfl ?_
        first | (exfalso; omega) | exact k_S (hP _ _) (entS_s (by unfold shW; first | (rw [if_pos ⟨hq, by omega⟩]; done) | (rw [if_neg (fun q => hq q.1)]; done) | (rw [if_neg (fun q => by have := q.2; omega)]; done)) rfl)
      refine r_iconst M dX3_eatShares_35 ?_
      refine r_goto M dX3_eatShares_36 (tgt := 40) rfl ?_
      refine r_istore_5 M dX3_eatShares_40 (by decide) rfl ?_
      refine r_aload_n M dX3_eatShares_42 rfl ?_
      refine r_getR M dX3_eatShares_43 fk_X3_25 (by decide) rfl ?_
      refine r_iload_n M dX3_eatShares_46 rfl ?_
      refine r_iload M dX3_eatShares_47 rfl ?_
      refine r_if_eq M dX3_eatShares_49 (tgt := 60) rfl (by omega) (fun b49 => ?_) (fun b49 => ?_)
      · refine r_iconst M dX3_eatShares_60 ?_
        refine r_aload M dX3_eatShares_61 rfl ?_
        refine r_getV M dX3_eatShares_63 fk_X3_116 (show (_ : Nat) < 10 by omega) rfl (S 4 l 5) (by rfl) ?_
        refine r_callV3 MM dX3_eatShares_66 ck_X3_103 vk_X2_enter ⟨by omega, by omega, by omega⟩ ⟨by decide, by decide, rfl⟩ (by decide) (Nat.le_of_ble_eq_true rfl) (cn_enter (by omega) _ _ ?_)
        refine r_iinc_3 M (_) dX3_eatShares_69 rfl (by decide) rfl ?_
        refine r_goto M dX3_eatShares_72 (tgt := 2) rfl ?_
        first | (exfalso; omega) | exact k_S (hP _ _) (entS_s (by unfold shW; first | (rw [if_pos ⟨hq, by omega⟩]; done) | (rw [if_neg (fun q => hq q.1)]; done) | (rw [if_neg (fun q => by have := q.2; omega)]; done)) rfl)
      refine r_aload M dX3_eatShares_52 rfl ?_
      refine r_getV M dX3_eatShares_54 fk_X3_116 (show (_ : Nat) < 10 by omega) rfl (S 4 l 5) (by rfl) ?_
      refine r_goto M dX3_eatShares_57 (tgt := 61) rfl ?_
      refine r_aload M dX3_eatShares_61 rfl ?_
      refine r_getV M dX3_eatShares_63 fk_X3_116 (show (_ : Nat) < 10 by omega) rfl (S 4 l 5) (by rfl) ?_
      refine r_callV3 MM dX3_eatShares_66 ck_X3_103 vk_X2_enter ⟨by omega, by omega, by omega⟩ ⟨by decide, by decide, rfl⟩ (by decide) (Nat.le_of_ble_eq_true rfl) (cn_enter (by omega) _ _ ?_)
      refine r_iinc_3 M (_) dX3_eatShares_69 rfl (by decide) rfl ?_
      refine r_goto M dX3_eatShares_72 (tgt := 2) rfl ?_
      first | (exfalso; omega) | exact k_S (hP _ _) (entS_s (by unfold shW; first | (rw [if_pos ⟨hq, by omega⟩]; done) | (rw [if_neg (fun q => hq q.1)]; done) | (rw [if_neg (fun q => by have := q.2; omega)]; done)) rfl)
    refine r_if_eq M dX3_eatShares_23 (tgt := 39) rfl (by omega) (fun b23 => ?_) (fun b23 => by omega)
    refine r_iconst M dX3_eatShares_39 ?_
    refine r_istore_5 M dX3_eatShares_40 (by decide) rfl ?_
    refine r_aload_n M dX3_eatShares_42 rfl ?_
    refine r_getR M dX3_eatShares_43 fk_X3_25 (by decide) rfl ?_
    refine r_iload_n M dX3_eatShares_46 rfl ?_
    refine r_iload M dX3_eatShares_47 rfl ?_
    refine r_if_eq M dX3_eatShares_49 (tgt := 60) rfl (by omega) (fun b49 => ?_) (fun b49 => ?_)
    · refine r_iconst M dX3_eatShares_60 ?_
      refine r_aload M dX3_eatShares_61 rfl ?_
      refine r_getV M dX3_eatShares_63 fk_X3_116 (show (_ : Nat) < 10 by omega) rfl (S 4 l 5) (by rfl) ?_
      refine r_callV3 MM dX3_eatShares_66 ck_X3_103 vk_X2_enter ⟨by omega, by omega, by omega⟩ ⟨by decide, by decide, rfl⟩ (by decide) (Nat.le_of_ble_eq_true rfl) (cn_enter (by omega) _ _ ?_)
      refine r_iinc_3 M (_) dX3_eatShares_69 rfl (by decide) rfl ?_
      refine r_goto M dX3_eatShares_72 (tgt := 2) rfl ?_
      first | (exfalso; omega) | exact k_S (hP _ _) (entS_s (by unfold shW; first | (rw [if_pos ⟨hq, by omega⟩]; done) | (rw [if_neg (fun q => hq q.1)]; done) | (rw [if_neg (fun q => by have := q.2; omega)]; done)) rfl)
    refine r_aload M dX3_eatShares_52 rfl ?_
    refine r_getV M dX3_eatShares_54 fk_X3_116 (show (_ : Nat) < 10 by omega) rfl (S 4 l 5) (by rfl) ?_
    refine r_goto M dX3_eatShares_57 (tgt := 61) rfl ?_
    refine r_aload M dX3_eatShares_61 rfl ?_
    refine r_getV M dX3_eatShares_63 fk_X3_116 (show (_ : Nat) < 10 by omega) rfl (S 4 l 5) (by rfl) ?_
    refine r_callV3 MM dX3_eatShares_66 ck_X3_103 vk_X2_enter ⟨by omega, by omega, by omega⟩ ⟨by decide, by decide, rfl⟩ (by decide) (Nat.le_of_ble_eq_true rfl) (cn_enter (by omega) _ _ ?_)
    refine r_iinc_3 M (_) dX3_eatShares_69 rfl (by decide) rfl ?_
    refine r_goto M dX3_eatShares_72 (tgt := 2) rfl ?_
    first | (exfalso; omega) | exact k_S (hP _ _) (entS_s (by unfold shW; first | (rw [if_pos ⟨hq, by omega⟩]; done) | (rw [if_neg (fun q => hq q.1)]; done) | (rw [if_neg (fun q => by have := q.2; omega)]; done)) rfl)
theorem cn_eatAssessments {a : Int} (hI : CI S) (ha : 0 ≤ a ∧ a ≤ 100000000) (h : Ret (some (vI (eaAs S a).2)) (eaAs S a).1) : Cn g yX3_eatAssessments cX3_eatAssessments 5 (some .int) 4 95 0 [vR 0 0, vI a] S Ret Thr := by
  refine enter (L := [some (vR 0 0), some (vI a), none, none, none]) (by decide +kernel) (Nat.le_of_ble_eq_true rfl) rfl (fun K MM => ?_)
  have M := MM.mk
  have hc := hI.cnt
  have hcl := cN_le hI
  have hce := cN_eq hI
  refine r_iconst M dX3_eatAssessments_0 ?_
  refine r_istore_2 M dX3_eatAssessments_1 (by decide) rfl ?_
  refine k_S (S1 := entS S (asW S) (asB S) 0) ?_ (entS_0 _ _ _).symm
  refine fz (P := fun l => ∀ c3 c4, K 0 2 [some (vR 0 0), some (vI a), some (vI (l : Int)), c3, c4] [] (entS S (asW S) (asB S) l)) (m := cN S) ?_ ?_ _ _
  · intro c3 c4
    refine r_iload_n M dX3_eatAssessments_2 rfl ?_
    refine r_aload_n M dX3_eatAssessments_3 rfl ?_
    refine r_getV M dX3_eatAssessments_4 fk_X3_29 (by decide) rfl (S 0 0 3) (by rfl) ?_
    refine r_icmp_ge M dX3_eatAssessments_7 (tgt := 67) rfl (by omega) (fun b7 => ?_) (fun b7 => by omega)
    refine r_aload_n M dX3_eatAssessments_67 rfl ?_
    refine r_getR M dX3_eatAssessments_68 fk_X3_25 (by decide) rfl ?_
    refine r_iload_n M dX3_eatAssessments_71 rfl ?_
    refine r_callV1 MM dX3_eatAssessments_72 ck_X3_106 vk_X2_part ⟨by omega, by omega, by omega⟩ ⟨by decide, by decide, rfl⟩ (by decide) (Nat.le_of_ble_eq_true rfl) (cn_partE hI (asW_ok hI) ha ?_)
    refine r_istore_2 M dX3_eatAssessments_75 (by decide) rfl ?_
    refine r_iconst M dX3_eatAssessments_76 ?_
    refine r_istore_3 M dX3_eatAssessments_77 (by decide) rfl ?_
    refine k_S (S1 := fS (wp (entS S (asW S) (asB S) (cN S)) (prS S (asW S) (asB S) a).1) 10 (fun i => S 4 i 10 + (prS S (asW S) (asB S) a).1 i) 0) ?_ (fS_0 _ _ _).symm
    refine fz (P := fun l => K 0 78 [some (vR 0 0), some (vI a), some (vI (prS S (asW S) (asB S) a).2), some (vI (l : Int)), c4] [] (fS (wp (entS S (asW S) (asB S) (cN S)) (prS S (asW S) (asB S) a).1) 10 (fun i => S 4 i 10 + (prS S (asW S) (asB S) a).1 i) l)) (m := cN S) ?_ ?_
    · refine r_iload_n M dX3_eatAssessments_78 rfl ?_
      refine r_aload_n M dX3_eatAssessments_79 rfl ?_
      refine r_getV M dX3_eatAssessments_80 fk_X3_29 (by decide) rfl (S 0 0 3) (by rfl) ?_
      refine r_icmp_ge M dX3_eatAssessments_83 (tgt := 114) rfl (by omega) (fun b83 => ?_) (fun b83 => by omega)
      refine r_iload_n M dX3_eatAssessments_114 rfl ?_
      refine r_iret MM dX3_eatAssessments_115 ?_
      exact h
    · intro l hl hP
      refine r_iload_n M dX3_eatAssessments_78 rfl ?_
      refine r_aload_n M dX3_eatAssessments_79 rfl ?_
      refine r_getV M dX3_eatAssessments_80 fk_X3_29 (by decide) rfl (S 0 0 3) (by rfl) ?_
      refine r_icmp_ge M dX3_eatAssessments_83 (tgt := 114) rfl (by omega) (fun b83 => by omega) (fun b83 => ?_)
      refine r_aload_n M dX3_eatAssessments_86 rfl ?_
      refine r_getR M dX3_eatAssessments_87 fk_X3_11 (by decide) rfl ?_
      refine r_iload_n M dX3_eatAssessments_90 rfl ?_
      refine r_aaldM M (_) dX3_eatAssessments_91 rfl (by omega) ?_
      refine r_dupR M dX3_eatAssessments_92 ?_
      refine r_getV M dX3_eatAssessments_93 fk_X3_168 (show (_ : Nat) < 10 by omega) rfl (S 4 l 10) (by exact fS_at _ _ _ _) ?_
      refine r_aload_n M dX3_eatAssessments_96 rfl ?_
      refine r_getR M dX3_eatAssessments_97 fk_X3_25 (by decide) rfl ?_
      refine r_iload_n M dX3_eatAssessments_100 rfl ?_
      refine r_callV1 MM dX3_eatAssessments_101 ck_X3_110 vk_X2_partOf ⟨by omega, by omega, by omega⟩ ⟨by decide, by decide, rfl⟩ (by decide) (Nat.le_of_ble_eq_true rfl) (cn_partOfV (by omega) rfl ?_)
      refine r_iadd M dX3_eatAssessments_104 ?_
      refine r_putI M dX3_eatAssessments_105 pk_X3_168 (show (_ : Nat) < 10 by omega) ?_
      refine r_iinc_3 M (_) dX3_eatAssessments_108 rfl (by decide) rfl ?_
      refine r_goto M dX3_eatAssessments_111 (tgt := 78) rfl ?_
      exact k_S hP (fS_s rfl)
  · intro l hl hP c3 c4
    have hm := hI.mem (show l < 10 by omega)
    unfold MI at hm
    refine r_iload_n M dX3_eatAssessments_2 rfl ?_
    refine r_aload_n M dX3_eatAssessments_3 rfl ?_
    refine r_getV M dX3_eatAssessments_4 fk_X3_29 (by decide) rfl (S 0 0 3) (by rfl) ?_
    refine r_icmp_ge M dX3_eatAssessments_7 (tgt := 67) rfl (by omega) (fun b7 => by omega) (fun b7 => ?_)
    refine r_aload_n M dX3_eatAssessments_10 rfl ?_
    refine r_getR M dX3_eatAssessments_11 fk_X3_11 (by decide) rfl ?_
    refine r_iload_n M dX3_eatAssessments_14 rfl ?_
    refine r_aaldM M (_) dX3_eatAssessments_15 rfl (by omega) ?_
    refine r_astore_3 M dX3_eatAssessments_16 (by decide) rfl ?_
    refine r_aload_n M dX3_eatAssessments_17 rfl ?_
    refine r_callV0 MM dX3_eatAssessments_18 ck_X3_96 vk_X1_isActive ⟨by omega, by omega, by omega⟩ ⟨by decide, by decide, rfl⟩ (show (_ : Nat) < 10 by omega) (Nat.le_of_ble_eq_true rfl) (cn_isActiveV (by omega) (v := S 4 l 3) rfl (by omega) (fun hq => ?_) (fun hq => ?_))
    · refine r_if_eq M dX3_eatAssessments_21 (tgt := 31) rfl (by omega) (fun b21 => by omega) (fun b21 => ?_)
      refine r_aload_n M dX3_eatAssessments_24 rfl ?_
      refine r_getV M dX3_eatAssessments_25 fk_X3_119 (show (_ : Nat) < 10 by omega) rfl (S 4 l 12) (by rfl) ?_
      refine r_goto M dX3_eatAssessments_28 (tgt := 32) rfl ?_
      refine r_istore_4 M dX3_eatAssessments_32 (by decide) rfl ?_
      refine r_aload_n M dX3_eatAssessments_34 rfl ?_
      refine r_getR M dX3_eatAssessments_35 fk_X3_25 (by decide) rfl ?_
      refine r_iload_n M dX3_eatAssessments_38 rfl ?_
      refine r_iload M dX3_eatAssessments_39 rfl ?_
      refine r_aload_n M dX3_eatAssessments_41 rfl ?_
      refine r_getV M dX3_eatAssessments_42 fk_X3_85 (show (_ : Nat) < 10 by omega) rfl (S 4 l 3) (by rfl) ?_
      refine r_iconst M dX3_eatAssessments_45 ?_
      refine r_icmp_ne M dX3_eatAssessments_46 (tgt := 56) rfl (by omega) (fun b46 => ?_) (fun b46 => ?_)
      · refine r_iload M dX3_eatAssessments_56 rfl ?_
        refine r_callV3 MM dX3_eatAssessments_58 ck_X3_103 vk_X2_enter ⟨by omega, by omega, by omega⟩ ⟨by decide, by decide, rfl⟩ (by decide) (Nat.le_of_ble_eq_true rfl) (cn_enter (by omega) _ _ ?_)
        refine r_iinc_2 M (_) dX3_eatAssessments_61 rfl (by decide) rfl ?_
        refine r_goto M dX3_eatAssessments_64 (tgt := 2) rfl ?_
        exact k_S (hP _ _) (entS_s (by unfold asW; first | (rw [if_pos hq]; done) | (rw [if_neg hq]; done)) (by unfold asB asW; first | (rw [if_pos b46, if_pos hq]; done) | (rw [if_neg b46, if_pos hq]; done) | (rw [if_pos b46, if_neg hq]; done) | (rw [if_neg b46, if_neg hq]; done)))
      refine r_iload M dX3_eatAssessments_49 rfl ?_
      refine r_iconst M dX3_eatAssessments_51 ?_
      refine r_idiv M dX3_eatAssessments_52 (by omega) ?_
      refine r_goto M dX3_eatAssessments_53 (tgt := 58) rfl ?_
      refine r_callV3 MM dX3_eatAssessments_58 ck_X3_103 vk_X2_enter ⟨by omega, by omega, by omega⟩ ⟨by decide, by decide, rfl⟩ (by decide) (Nat.le_of_ble_eq_true rfl) (cn_enter (by omega) _ _ ?_)
      refine r_iinc_2 M (_) dX3_eatAssessments_61 rfl (by decide) rfl ?_
      refine r_goto M dX3_eatAssessments_64 (tgt := 2) rfl ?_
      exact k_S (hP _ _) (entS_s (by unfold asW; first | (rw [if_pos hq]; done) | (rw [if_neg hq]; done)) (by unfold asB asW; first | (rw [if_pos b46, if_pos hq]; done) | (rw [if_neg b46, if_pos hq]; done) | (rw [if_pos b46, if_neg hq]; done) | (rw [if_neg b46, if_neg hq]; done)))
    refine r_if_eq M dX3_eatAssessments_21 (tgt := 31) rfl (by omega) (fun b21 => ?_) (fun b21 => by omega)
    refine r_iconst M dX3_eatAssessments_31 ?_
    refine r_istore_4 M dX3_eatAssessments_32 (by decide) rfl ?_
    refine r_aload_n M dX3_eatAssessments_34 rfl ?_
    refine r_getR M dX3_eatAssessments_35 fk_X3_25 (by decide) rfl ?_
    refine r_iload_n M dX3_eatAssessments_38 rfl ?_
    refine r_iload M dX3_eatAssessments_39 rfl ?_
    refine r_aload_n M dX3_eatAssessments_41 rfl ?_
    refine r_getV M dX3_eatAssessments_42 fk_X3_85 (show (_ : Nat) < 10 by omega) rfl (S 4 l 3) (by rfl) ?_
    refine r_iconst M dX3_eatAssessments_45 ?_
    refine r_icmp_ne M dX3_eatAssessments_46 (tgt := 56) rfl (by omega) (fun b46 => ?_) (fun b46 => ?_)
    · refine r_iload M dX3_eatAssessments_56 rfl ?_
      refine r_callV3 MM dX3_eatAssessments_58 ck_X3_103 vk_X2_enter ⟨by omega, by omega, by omega⟩ ⟨by decide, by decide, rfl⟩ (by decide) (Nat.le_of_ble_eq_true rfl) (cn_enter (by omega) _ _ ?_)
      refine r_iinc_2 M (_) dX3_eatAssessments_61 rfl (by decide) rfl ?_
      refine r_goto M dX3_eatAssessments_64 (tgt := 2) rfl ?_
      exact k_S (hP _ _) (entS_s (by unfold asW; first | (rw [if_pos hq]; done) | (rw [if_neg hq]; done)) (by unfold asB asW; first | (rw [if_pos b46, if_pos hq]; done) | (rw [if_neg b46, if_pos hq]; done) | (rw [if_pos b46, if_neg hq]; done) | (rw [if_neg b46, if_neg hq]; done)))
    refine r_iload M dX3_eatAssessments_49 rfl ?_
    refine r_iconst M dX3_eatAssessments_51 ?_
    refine r_idiv M dX3_eatAssessments_52 (by omega) ?_
    refine r_goto M dX3_eatAssessments_53 (tgt := 58) rfl ?_
    refine r_callV3 MM dX3_eatAssessments_58 ck_X3_103 vk_X2_enter ⟨by omega, by omega, by omega⟩ ⟨by decide, by decide, rfl⟩ (by decide) (Nat.le_of_ble_eq_true rfl) (cn_enter (by omega) _ _ ?_)
    refine r_iinc_2 M (_) dX3_eatAssessments_61 rfl (by decide) rfl ?_
    refine r_goto M dX3_eatAssessments_64 (tgt := 2) rfl ?_
    exact k_S (hP _ _) (entS_s (by unfold asW; first | (rw [if_pos hq]; done) | (rw [if_neg hq]; done)) (by unfold asB asW; first | (rw [if_pos b46, if_pos hq]; done) | (rw [if_neg b46, if_pos hq]; done) | (rw [if_pos b46, if_neg hq]; done) | (rw [if_neg b46, if_neg hq]; done)))
theorem cn_eatGains {a : Int} (hI : CI S) (ha : 0 ≤ a ∧ a ≤ 100000000) (h : Ret (some (vI (eaGn S a).2)) (eaGn S a).1) : Cn g yX3_eatGains cX3_eatGains 4 (some .int) 4 95 0 [vR 0 0, vI a] S Ret Thr := by
  refine enter (L := [some (vR 0 0), some (vI a), none, none]) (by decide +kernel) (Nat.le_of_ble_eq_true rfl) rfl (fun K MM => ?_)
  have M := MM.mk
  have hc := hI.cnt
  have hcl := cN_le hI
  have hce := cN_eq hI
  refine r_iconst M dX3_eatGains_0 ?_
  refine r_istore_2 M dX3_eatGains_1 (by decide) rfl ?_
  refine k_S (S1 := entS S (gnW S) (fun i => S 4 i 7) 0) ?_ (entS_0 _ _ _).symm
  refine fz (P := fun l => ∀ c3, K 0 2 [some (vR 0 0), some (vI a), some (vI (l : Int)), c3] [] (entS S (gnW S) (fun i => S 4 i 7) l)) (m := cN S) ?_ ?_ _
  · intro c3
    refine r_iload_n M dX3_eatGains_2 rfl ?_
    refine r_aload_n M dX3_eatGains_3 rfl ?_
    refine r_getV M dX3_eatGains_4 fk_X3_29 (by decide) rfl (S 0 0 3) (by rfl) ?_
    refine r_icmp_ge M dX3_eatGains_7 (tgt := 50) rfl (by omega) (fun b7 => ?_) (fun b7 => by omega)
    refine r_aload_n M dX3_eatGains_50 rfl ?_
    refine r_getR M dX3_eatGains_51 fk_X3_25 (by decide) rfl ?_
    refine r_iload_n M dX3_eatGains_54 rfl ?_
    refine r_callV1 MM dX3_eatGains_55 ck_X3_106 vk_X2_part ⟨by omega, by omega, by omega⟩ ⟨by decide, by decide, rfl⟩ (by decide) (Nat.le_of_ble_eq_true rfl) (cn_partE hI (gnW_ok hI) ha ?_)
    refine r_istore_2 M dX3_eatGains_58 (by decide) rfl ?_
    refine r_iconst M dX3_eatGains_59 ?_
    refine r_istore_3 M dX3_eatGains_60 (by decide) rfl ?_
    refine k_S (S1 := fS (wp (entS S (gnW S) (fun i => S 4 i 7) (cN S)) (prS S (gnW S) (fun i => S 4 i 7) a).1) 7 (fun i => S 4 i 7 - (prS S (gnW S) (fun i => S 4 i 7) a).1 i) 0) ?_ (fS_0 _ _ _).symm
    refine fz (P := fun l => K 0 61 [some (vR 0 0), some (vI a), some (vI (prS S (gnW S) (fun i => S 4 i 7) a).2), some (vI (l : Int))] [] (fS (wp (entS S (gnW S) (fun i => S 4 i 7) (cN S)) (prS S (gnW S) (fun i => S 4 i 7) a).1) 7 (fun i => S 4 i 7 - (prS S (gnW S) (fun i => S 4 i 7) a).1 i) l)) (m := cN S) ?_ ?_
    · refine r_iload_n M dX3_eatGains_61 rfl ?_
      refine r_aload_n M dX3_eatGains_62 rfl ?_
      refine r_getV M dX3_eatGains_63 fk_X3_29 (by decide) rfl (S 0 0 3) (by rfl) ?_
      refine r_icmp_ge M dX3_eatGains_66 (tgt := 97) rfl (by omega) (fun b66 => ?_) (fun b66 => by omega)
      refine r_iload_n M dX3_eatGains_97 rfl ?_
      refine r_iret MM dX3_eatGains_98 ?_
      exact h
    · intro l hl hP
      refine r_iload_n M dX3_eatGains_61 rfl ?_
      refine r_aload_n M dX3_eatGains_62 rfl ?_
      refine r_getV M dX3_eatGains_63 fk_X3_29 (by decide) rfl (S 0 0 3) (by rfl) ?_
      refine r_icmp_ge M dX3_eatGains_66 (tgt := 97) rfl (by omega) (fun b66 => by omega) (fun b66 => ?_)
      refine r_aload_n M dX3_eatGains_69 rfl ?_
      refine r_getR M dX3_eatGains_70 fk_X3_11 (by decide) rfl ?_
      refine r_iload_n M dX3_eatGains_73 rfl ?_
      refine r_aaldM M (_) dX3_eatGains_74 rfl (by omega) ?_
      refine r_dupR M dX3_eatGains_75 ?_
      refine r_getV M dX3_eatGains_76 fk_X3_79 (show (_ : Nat) < 10 by omega) rfl (S 4 l 7) (by exact fS_at _ _ _ _) ?_
      refine r_aload_n M dX3_eatGains_79 rfl ?_
      refine r_getR M dX3_eatGains_80 fk_X3_25 (by decide) rfl ?_
      refine r_iload_n M dX3_eatGains_83 rfl ?_
      refine r_callV1 MM dX3_eatGains_84 ck_X3_110 vk_X2_partOf ⟨by omega, by omega, by omega⟩ ⟨by decide, by decide, rfl⟩ (by decide) (Nat.le_of_ble_eq_true rfl) (cn_partOfV (by omega) rfl ?_)
      refine r_isub M dX3_eatGains_87 ?_
      refine r_putI M dX3_eatGains_88 pk_X3_79 (show (_ : Nat) < 10 by omega) ?_
      refine r_iinc_3 M (_) dX3_eatGains_91 rfl (by decide) rfl ?_
      refine r_goto M dX3_eatGains_94 (tgt := 61) rfl ?_
      exact k_S hP (fS_s rfl)
  · intro l hl hP c3
    have hm := hI.mem (show l < 10 by omega)
    unfold MI at hm
    refine r_iload_n M dX3_eatGains_2 rfl ?_
    refine r_aload_n M dX3_eatGains_3 rfl ?_
    refine r_getV M dX3_eatGains_4 fk_X3_29 (by decide) rfl (S 0 0 3) (by rfl) ?_
    refine r_icmp_ge M dX3_eatGains_7 (tgt := 50) rfl (by omega) (fun b7 => by omega) (fun b7 => ?_)
    refine r_aload_n M dX3_eatGains_10 rfl ?_
    refine r_getR M dX3_eatGains_11 fk_X3_11 (by decide) rfl ?_
    refine r_iload_n M dX3_eatGains_14 rfl ?_
    refine r_aaldM M (_) dX3_eatGains_15 rfl (by omega) ?_
    refine r_astore_3 M dX3_eatGains_16 (by decide) rfl ?_
    refine r_aload_n M dX3_eatGains_17 rfl ?_
    refine r_getR M dX3_eatGains_18 fk_X3_25 (by decide) rfl ?_
    refine r_iload_n M dX3_eatGains_21 rfl ?_
    refine r_aload_n M dX3_eatGains_22 rfl ?_
    refine r_callV0 MM dX3_eatGains_23 ck_X3_96 vk_X1_isActive ⟨by omega, by omega, by omega⟩ ⟨by decide, by decide, rfl⟩ (show (_ : Nat) < 10 by omega) (Nat.le_of_ble_eq_true rfl) (cn_isActiveV (by omega) (v := S 4 l 3) rfl (by omega) (fun hq => ?_) (fun hq => ?_))
    · refine r_if_eq M dX3_eatGains_26 (tgt := 36) rfl (by omega) (fun b26 => by omega) (fun b26 => ?_)
      refine r_aload_n M dX3_eatGains_29 rfl ?_
      refine r_getV M dX3_eatGains_30 fk_X3_79 (show (_ : Nat) < 10 by omega) rfl (S 4 l 7) (by rfl) ?_
      refine r_goto M dX3_eatGains_33 (tgt := 37) rfl ?_
      refine r_aload_n M dX3_eatGains_37 rfl ?_
      refine r_getV M dX3_eatGains_38 fk_X3_79 (show (_ : Nat) < 10 by omega) rfl (S 4 l 7) (by rfl) ?_
      refine r_callV3 MM dX3_eatGains_41 ck_X3_103 vk_X2_enter ⟨by omega, by omega, by omega⟩ ⟨by decide, by decide, rfl⟩ (by decide) (Nat.le_of_ble_eq_true rfl) (cn_enter (by omega) _ _ ?_)
      refine r_iinc_2 M (_) dX3_eatGains_44 rfl (by decide) rfl ?_
      refine r_goto M dX3_eatGains_47 (tgt := 2) rfl ?_
      exact k_S (hP _) (entS_s (by unfold gnW; first | (rw [if_pos hq]; done) | (rw [if_neg hq]; done)) rfl)
    refine r_if_eq M dX3_eatGains_26 (tgt := 36) rfl (by omega) (fun b26 => ?_) (fun b26 => by omega)
    refine r_iconst M dX3_eatGains_36 ?_
    refine r_aload_n M dX3_eatGains_37 rfl ?_
    refine r_getV M dX3_eatGains_38 fk_X3_79 (show (_ : Nat) < 10 by omega) rfl (S 4 l 7) (by rfl) ?_
    refine r_callV3 MM dX3_eatGains_41 ck_X3_103 vk_X2_enter ⟨by omega, by omega, by omega⟩ ⟨by decide, by decide, rfl⟩ (by decide) (Nat.le_of_ble_eq_true rfl) (cn_enter (by omega) _ _ ?_)
    refine r_iinc_2 M (_) dX3_eatGains_44 rfl (by decide) rfl ?_
    refine r_goto M dX3_eatGains_47 (tgt := 2) rfl ?_
    exact k_S (hP _) (entS_s (by unfold gnW; first | (rw [if_pos hq]; done) | (rw [if_neg hq]; done)) rfl)
end XEat
