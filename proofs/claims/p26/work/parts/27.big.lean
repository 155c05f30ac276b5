/-! ===== DefaultFund: size, fail, close ===== -/
def ndN (f : Nat → Int) : Nat → Int × Int
  | 0 => (0, 0)
  | m + 1 => (max (ndN f m).1 (f m), max (ndN f m).2 (min (f m) (ndN f m).1))
theorem ndN_rng {f : Nat → Int} (hf : ∀ k, k < 10 → 0 ≤ f k ∧ f k ≤ 1000000) : ∀ m, m ≤ 10 → (0 ≤ (ndN f m).1 ∧ (ndN f m).1 ≤ 1000000) ∧ 0 ≤ (ndN f m).2 ∧ (ndN f m).2 ≤ 1000000
  | 0, _ => by
    show ((0 : Int) ≤ 0 ∧ (0 : Int) ≤ 1000000) ∧ (0 : Int) ≤ 0 ∧ (0 : Int) ≤ 1000000
    omega
  | m + 1, hm => by
    have h := ndN_rng hf m (by omega)
    have h2 := hf m (by omega)
    show (0 ≤ max (ndN f m).1 (f m) ∧ max (ndN f m).1 (f m) ≤ 1000000) ∧ 0 ≤ max (ndN f m).2 (min (f m) (ndN f m).1) ∧ max (ndN f m).2 (min (f m) (ndN f m).1) ≤ 1000000
    omega
def tsF (S : St) : Nat → Int := fun i => if actv S i then S 4 i 8 else 0
def need (S : St) : Int := (ndN (tsF S) (cN S)).1 + (ndN (tsF S) (cN S)).2
def szW (S : St) : Nat → Int := fun i => if actv S i then S 4 i 4 else 0
/-- by how much a share grows -/
def grw (S : St) : Nat → Int := fun i => max 0 ((prS S (szW S) (fun _ => need S) (need S)).1 i - S 4 i 5)
def szS (S : St) : St := eatS S (szW S) (fun _ => need S) (need S) 5 (fun i => S 4 i 5 + grw S i)
theorem tsF_ok {S : St} (hI : CI S) : ∀ k, k < 10 → 0 ≤ tsF S k ∧ tsF S k ≤ 1000000 := fun k hk => by
  have h := (hI.mem hk).2.2.2.2.2.2.2.1
  unfold tsF
  split <;> omega
theorem need_ok {S : St} (hI : CI S) : 0 ≤ need S ∧ need S ≤ 2000000 := by
  have hc := hI.cnt
  have h := ndN_rng (tsF_ok hI) (cN S) (by unfold cN; omega)
  unfold need
  omega
theorem szW_ok {S : St} (hI : CI S) : ∀ k, k < 10 → (0 ≤ szW S k ∧ szW S k ≤ 100000000) ∧ 0 ≤ need S ∧ need S ≤ 100000000 := fun k hk => by
  have h := (hI.mem hk).2.2.2.1
  have h2 := need_ok hI
  unfold szW
  split <;> omega
/-- the first member below m that takes the client -/
def hostN (S : St) (lots : Int) : Nat → Option Nat
  | 0 => none
  | m + 1 => match hostN S lots m with
    | some j => some j
    | none => if actv S m ∧ taken S m lots then some m else none
theorem hostN_none {S : St} {lots : Int} : ∀ {m : Nat}, hostN S lots m = none → ∀ i, i < m → ¬ (actv S i ∧ taken S i lots)
  | m + 1, h, i, hi => by
    unfold hostN at h
    cases h1 : hostN S lots m with
    | some j => rw [h1] at h; cases h
    | none =>
      rw [h1] at h
      by_cases e : i = m
      · subst e
        intro q
        simp only [if_pos q] at h
        cases h
      · exact hostN_none h1 i (by omega)
theorem hostN_some {S : St} {lots : Int} : ∀ {m j : Nat}, hostN S lots m = some j → j < m ∧ (actv S j ∧ taken S j lots) ∧ ∀ i, i < j → ¬ (actv S i ∧ taken S i lots)
  | m + 1, j, h => by
    unfold hostN at h
    cases h1 : hostN S lots m with
    | some j2 =>
      rw [h1] at h
      cases h
      have := hostN_some h1
      exact ⟨by omega, this.2⟩
    | none =>
      rw [h1] at h
      by_cases q : actv S m ∧ taken S m lots
      · simp only [if_pos q] at h
        cases h
        exact ⟨by omega, q, fun i hi => hostN_none h1 i hi⟩
      · simp only [if_neg q] at h
        cases h
theorem hostN_first {S : St} {lots : Int} {j : Nat} (h1 : actv S j ∧ taken S j lots) (h2 : ∀ i, i < j → ¬ (actv S i ∧ taken S i lots)) : ∀ m, j < m → hostN S lots m = some j
  | m + 1, hm => by
    unfold hostN
    by_cases e : j = m
    · subst e
      cases h3 : hostN S lots j with
      | some k =>
        have := hostN_some h3
        exact absurd this.2.1 (h2 k this.1)
      | none => simp only [if_pos h1]
    · rw [hostN_first h1 h2 m (by omega)]
theorem hostN_no {S : St} {lots : Int} : ∀ m : Nat, (∀ i, i < m → ¬ (actv S i ∧ taken S i lots)) → hostN S lots m = none
  | 0, _ => rfl
  | m + 1, h => by
    unfold hostN
    rw [hostN_no m (fun i hi => h i (by omega))]
    simp only [if_neg (h m (by omega))]
/-- one client finds a host, or is closed -/
def mv1 (S : St) (lots : Int) : St × Int := match hostN S lots (cN S) with
  | some j => (takeS S j lots, 0)
  | none => (S, lots)
def mvN (S : St) (i : Nat) : Nat → St × Int
  | 0 => (S, 0)
  | k + 1 => ((mv1 (mvN S i k).1 (S 5 i k)).1, (mvN S i k).2 + (mv1 (mvN S i k).1 (S 5 i k)).2)
theorem takeS_MI {S : St} {j : Nat} {lots : Int} (ht : taken S j lots) (hl : 0 ≤ lots ∧ lots ≤ 20) (hm : ∀ i, i < 10 → MI S i) : ∀ i, i < 10 → MI (takeS S j lots) i := fun i hi => by
  have h := hm i hi
  have ht1 := ht.1
  have ht2 := ht.2
  unfold MI at h ⊢
  have e4 : ∀ k, takeS S j lots 4 i k = if i = j ∧ k = 2 then S 4 j 2 + lots else if i = j ∧ k = 1 then S 4 j 1 + 1 else S 4 i k := fun k => by
    simp [takeS, up3]
  have e5 : ∀ k, takeS S j lots 5 i k = if i = j ∧ k = (S 4 j 1).toNat then lots else S 5 i k := fun k => by
    simp [takeS, up3]
  simp only [e4, e5]
  by_cases e : i = j
  · subst e
    simp only [true_and, show ((1 : Nat) = 2) = False by decide, show ((3 : Nat) = 2) = False by decide, show ((4 : Nat) = 2) = False by decide, show ((5 : Nat) = 2) = False by decide, show ((6 : Nat) = 2) = False by decide, show ((7 : Nat) = 2) = False by decide, show ((8 : Nat) = 2) = False by decide, show ((9 : Nat) = 2) = False by decide, show ((12 : Nat) = 2) = False by decide, show ((3 : Nat) = 1) = False by decide, show ((4 : Nat) = 1) = False by decide, show ((5 : Nat) = 1) = False by decide, show ((6 : Nat) = 1) = False by decide, show ((7 : Nat) = 1) = False by decide, show ((8 : Nat) = 1) = False by decide, show ((9 : Nat) = 1) = False by decide, show ((12 : Nat) = 1) = False by decide, if_true, if_false]
    refine ⟨by omega, by omega, h.2.2.1, h.2.2.2.1, h.2.2.2.2.1, h.2.2.2.2.2.1, h.2.2.2.2.2.2.1, h.2.2.2.2.2.2.2.1, h.2.2.2.2.2.2.2.2.1, h.2.2.2.2.2.2.2.2.2.1, fun k hk => ?_⟩
    split
    · exact hl
    · exact h.2.2.2.2.2.2.2.2.2.2 k hk
  · simp only [e, false_and, if_false]
    exact h
theorem mv1_MI {S : St} {lots : Int} (hl : 0 ≤ lots ∧ lots ≤ 20) (hm : ∀ i, i < 10 → MI S i) : ∀ i, i < 10 → MI (mv1 S lots).1 i := by
  unfold mv1
  split
  · rename_i j hj
    exact takeS_MI (hostN_some hj).2.1.2 hl hm
  · exact hm
/-- what moving leaves as it was: all but clients, their counts and lots; an inactive member's too -/
theorem mv1_keep {S : St} {lots : Int} : (∀ t, t ≠ 4 → t ≠ 5 → (mv1 S lots).1 t = S t) ∧ (∀ i k, k ≠ 1 → k ≠ 2 → (mv1 S lots).1 4 i k = S 4 i k) ∧ ∀ i, ¬ actv S i → (∀ k, (mv1 S lots).1 4 i k = S 4 i k) ∧ (mv1 S lots).1 5 i = S 5 i := by
  unfold mv1
  split
  · rename_i j hj
    have hs := hostN_some hj
    refine ⟨fun t h4 h5 => ?_, fun i k h1 h2 => ?_, fun i hi => ?_⟩
    · funext a b
      simp [takeS, up3, h4, h5]
    · simp [takeS, up3, h1, h2]
    · have e : ¬ i = j := fun q => hi (by rw [q]; exact hs.2.1.1)
      refine ⟨fun k => by simp [takeS, up3, e], ?_⟩
      funext k
      simp [takeS, up3, e]
  · exact ⟨fun _ _ _ => rfl, fun _ _ _ _ => rfl, fun _ _ => ⟨fun _ => rfl, rfl⟩⟩
theorem mvN_keep {S : St} {i : Nat} (hi : ¬ actv S i) : ∀ k, (∀ t, t ≠ 4 → t ≠ 5 → (mvN S i k).1 t = S t) ∧ (∀ j f, f ≠ 1 → f ≠ 2 → (mvN S i k).1 4 j f = S 4 j f) ∧ (∀ f, (mvN S i k).1 4 i f = S 4 i f) ∧ (mvN S i k).1 5 i = S 5 i
  | 0 => ⟨fun _ _ _ => rfl, fun _ _ _ _ => rfl, fun _ => rfl, rfl⟩
  | k + 1 => by
    have h := mvN_keep hi k
    have h1 := mv1_keep (S := (mvN S i k).1) (lots := S 5 i k)
    have hn : ¬ actv (mvN S i k).1 i := fun q => hi (by
      have e := h.2.2.1 3
      unfold actv at q ⊢
      rw [e] at q
      exact q)
    refine ⟨fun t a b => ?_, fun j f a b => ?_, fun f => ?_, ?_⟩
    · show (mv1 (mvN S i k).1 (S 5 i k)).1 t = _
      rw [h1.1 t a b, h.1 t a b]
    · show (mv1 (mvN S i k).1 (S 5 i k)).1 4 j f = _
      rw [h1.2.1 j f a b, h.2.1 j f a b]
    · show (mv1 (mvN S i k).1 (S 5 i k)).1 4 i f = _
      rw [(h1.2.2 i hn).1 f, h.2.2.1 f]
    · show (mv1 (mvN S i k).1 (S 5 i k)).1 5 i = _
      rw [(h1.2.2 i hn).2, h.2.2.2]
theorem mvN_MI {S : St} {i : Nat} (hi : i < 10) (hm : ∀ i, i < 10 → MI S i) : ∀ k, k ≤ 100 → ∀ j, j < 10 → MI (mvN S i k).1 j
  | 0, _ => hm
  | k + 1, hk => mv1_MI ((hm i hi).2.2.2.2.2.2.2.2.2.2 k (by omega)) (mvN_MI hi hm k (by omega))
def movS (S : St) (i : Nat) : St × Int := (dropS (mvN S i (S 4 i 1).toNat).1 i, (mvN S i (S 4 i 1).toNat).2)
section XBig
variable {g : Gl} {S : St} {Ret : Option AV → St → Prop} {Thr : String → St → Prop}
theorem cn_neededFund (hI : CI S) (h : Ret (some (vI (need S))) S) : Cn g yX3_neededFund cX3_neededFund 5 (some .int) 1 21 0 [vR 0 0] S Ret Thr := by
  refine enter (L := [some (vR 0 0), none, none, none, none]) (by decide +kernel) (Nat.le_of_ble_eq_true rfl) rfl (fun K MM => ?_)
  have M := MM.mk
  have hc := hI.cnt
  have hcl := cN_le hI
  have hce := cN_eq hI
  refine r_iconst M dX3_neededFund_0 ?_
  refine r_istore_1 M dX3_neededFund_1 (by decide) rfl ?_
  refine r_iconst M dX3_neededFund_2 ?_
  refine r_istore_2 M dX3_neededFund_3 (by decide) rfl ?_
  refine r_iconst M dX3_neededFund_4 ?_
  refine r_istore_3 M dX3_neededFund_5 (by decide) rfl ?_
  refine fz (P := fun l => ∀ c4, K 0 6 [some (vR 0 0), some (vI (ndN (tsF S) l).1), some (vI (ndN (tsF S) l).2), some (vI (l : Int)), c4] [] S) (m := cN S) ?_ ?_ _
  · intro c4
    refine r_iload_n M dX3_neededFund_6 rfl ?_
    refine r_aload_n M dX3_neededFund_7 rfl ?_
    refine r_getI M dX3_neededFund_8 fk_X3_29 (by decide) rfl ?_
    refine r_icmp_ge M dX3_neededFund_11 (tgt := 65) rfl (by omega) (fun b11 => ?_) (fun b11 => by omega)
    refine r_iload_n M dX3_neededFund_65 rfl ?_
    refine r_iload_n M dX3_neededFund_66 rfl ?_
    refine r_iadd M dX3_neededFund_67 ?_
    refine r_iret MM dX3_neededFund_68 ?_
    exact h
  · intro l hl hP c4
    have hm := hI.mem (show l < 10 by omega)
    unfold MI at hm
    have hr := ndN_rng (tsF_ok hI) l (by omega)
    refine r_iload_n M dX3_neededFund_6 rfl ?_
    refine r_aload_n M dX3_neededFund_7 rfl ?_
    refine r_getI M dX3_neededFund_8 fk_X3_29 (by decide) rfl ?_
    refine r_icmp_ge M dX3_neededFund_11 (tgt := 65) rfl (by omega) (fun b11 => by omega) (fun b11 => ?_)
    refine r_aload_n M dX3_neededFund_14 rfl ?_
    refine r_getR M dX3_neededFund_15 fk_X3_11 (by decide) rfl ?_
    refine r_iload_n M dX3_neededFund_18 rfl ?_
    refine r_aaldM M (_) dX3_neededFund_19 rfl (by omega) ?_
    refine r_callV0 MM dX3_neededFund_20 ck_X3_96 vk_X1_isActive ⟨by omega, by omega, by omega⟩ ⟨by decide, by decide, rfl⟩ (show (_ : Nat) < 10 by omega) (Nat.le_of_ble_eq_true rfl) (cn_isActive (by omega) (by omega) (fun hq => ?_) (fun hq => ?_))
    · refine r_if_eq M dX3_neededFund_23 (tgt := 38) rfl (by omega) (fun b23 => by omega) (fun b23 => ?_)
      refine r_aload_n M dX3_neededFund_26 rfl ?_
      refine r_getR M dX3_neededFund_27 fk_X3_11 (by decide) rfl ?_
      refine r_iload_n M dX3_neededFund_30 rfl ?_
      refine r_aaldM M (_) dX3_neededFund_31 rfl (by omega) ?_
      refine r_getI M dX3_neededFund_32 fk_X3_82 (show (_ : Nat) < 10 by omega) rfl ?_
      refine r_goto M dX3_neededFund_35 (tgt := 39) rfl ?_
      refine r_istore_4 M dX3_neededFund_39 (by decide) rfl ?_
      refine r_iload_n M dX3_neededFund_41 rfl ?_
      refine r_iload M dX3_neededFund_42 rfl ?_
      refine r_iload_n M dX3_neededFund_44 rfl ?_
      refine r_min M dX3_neededFund_45 mm_X3_188 (by omega) ⟨by omega, by omega⟩ (Nat.le_of_ble_eq_true rfl) ?_
      refine r_max M dX3_neededFund_48 mm_X3_150 (by omega) ⟨by omega, by omega⟩ (Nat.le_of_ble_eq_true rfl) ?_
      refine r_istore_2 M dX3_neededFund_51 (by decide) rfl ?_
      refine r_iload_n M dX3_neededFund_52 rfl ?_
      refine r_iload M dX3_neededFund_53 rfl ?_
      refine r_max M dX3_neededFund_55 mm_X3_150 (by omega) ⟨by omega, by omega⟩ (Nat.le_of_ble_eq_true rfl) ?_
      refine r_istore_1 M dX3_neededFund_58 (by decide) rfl ?_
      refine r_iinc_3 M (_) dX3_neededFund_59 rfl (by decide) rfl ?_
      refine r_goto M dX3_neededFund_62 (tgt := 6) rfl ?_
      have e : ndN (tsF S) (l + 1) = (max (ndN (tsF S) l).1 (tsF S l), max (ndN (tsF S) l).2 (min (tsF S l) (ndN (tsF S) l).1)) := rfl; rw [e] at hP; unfold tsF at hP ⊢; first | (simp only [if_pos hq] at hP; exact hP _) | (simp only [if_neg hq] at hP; exact hP _)
    refine r_if_eq M dX3_neededFund_23 (tgt := 38) rfl (by omega) (fun b23 => ?_) (fun b23 => by omega)
    refine r_iconst M dX3_neededFund_38 ?_
    refine r_istore_4 M dX3_neededFund_39 (by decide) rfl ?_
    refine r_iload_n M dX3_neededFund_41 rfl ?_
    refine r_iload M dX3_neededFund_42 rfl ?_
    refine r_iload_n M dX3_neededFund_44 rfl ?_
    refine r_min M dX3_neededFund_45 mm_X3_188 (by omega) ⟨by omega, by omega⟩ (Nat.le_of_ble_eq_true rfl) ?_
    refine r_max M dX3_neededFund_48 mm_X3_150 (by omega) ⟨by omega, by omega⟩ (Nat.le_of_ble_eq_true rfl) ?_
    refine r_istore_2 M dX3_neededFund_51 (by decide) rfl ?_
    refine r_iload_n M dX3_neededFund_52 rfl ?_
    refine r_iload M dX3_neededFund_53 rfl ?_
    refine r_max M dX3_neededFund_55 mm_X3_150 (by omega) ⟨by omega, by omega⟩ (Nat.le_of_ble_eq_true rfl) ?_
    refine r_istore_1 M dX3_neededFund_58 (by decide) rfl ?_
    refine r_iinc_3 M (_) dX3_neededFund_59 rfl (by decide) rfl ?_
    refine r_goto M dX3_neededFund_62 (tgt := 6) rfl ?_
    have e : ndN (tsF S) (l + 1) = (max (ndN (tsF S) l).1 (tsF S l), max (ndN (tsF S) l).2 (min (tsF S l) (ndN (tsF S) l).1)) := rfl; rw [e] at hP; unfold tsF at hP ⊢; first | (simp only [if_pos hq] at hP; exact hP _) | (simp only [if_neg hq] at hP; exact hP _)
theorem cn_size (hI : CI S) (hok : S 0 0 7 = -1 → Ret (some (vI (smN (grw S) (cN S)))) (szS S)) (hS : S 0 0 7 ≠ -1 → Thr E_S S) : Cn g yX3_size cX3_size 4 (some .int) 7 110 1 [vR 0 0] S Ret Thr := by
  refine enter (L := [some (vR 0 0), none, none, none]) (by decide +kernel) (Nat.le_of_ble_eq_true rfl) rfl (fun K MM => ?_)
  have M := MM.mk
  have hc := hI.cnt
  have hcl := cN_le hI
  have hce := cN_eq hI
  have hf := hI.2.2.1
  have hn := need_ok hI
  have hwo := szW_ok hI
  have hpo := partR_ok (po := S 10 0) (okW_ent (l := cN S) hI.2.2.2.2.2.1 hwo (by omega : 0 ≤ need S ∧ need S ≤ 100000000))
  refine r_aload_n M dX3_size_0 rfl ?_
  refine r_callV0 MM dX3_size_1 ck_X3_90 vk_X3_requireNoFailure ⟨by omega, by omega, by omega⟩ ⟨by decide, by decide, rfl⟩ (by decide) (Nat.le_of_ble_eq_true rfl) (cn_requireNoFailure (by omega) (fun q7 => ?_) hS)
  refine r_aload_n M dX3_size_4 rfl ?_
  refine r_callV0 MM dX3_size_5 ck_X3_93 vk_X3_neededFund ⟨by omega, by omega, by omega⟩ ⟨by decide, by decide, rfl⟩ (by decide) (Nat.le_of_ble_eq_true rfl) (cn_neededFund hI ?_)
  refine r_istore_1 M dX3_size_8 (by decide) rfl ?_
  refine r_iconst M dX3_size_9 ?_
  refine r_istore_2 M dX3_size_10 (by decide) rfl ?_
  refine k_S (S1 := entS S (szW S) (fun _ => need S) 0) ?_ (entS_0 _ _ _).symm
  refine fz (P := fun l => ∀ c3, K 1 11 [some (vR 0 0), some (vI (need S)), some (vI (l : Int)), c3] [] (entS S (szW S) (fun _ => need S) l)) (m := cN S) ?_ ?_ _
  · intro c3
    refine r_iload_n M dX3_size_11 rfl ?_
    refine r_aload_n M dX3_size_12 rfl ?_
    refine r_getV M dX3_size_13 fk_X3_29 (by decide) rfl (S 0 0 3) (by rfl) ?_
    refine r_icmp_ge M dX3_size_16 (tgt := 56) rfl (by omega) (fun b16 => ?_) (fun b16 => by omega)
    refine r_aload_n M dX3_size_56 rfl ?_
    refine r_getR M dX3_size_57 fk_X3_25 (by decide) rfl ?_
    refine r_iload_n M dX3_size_60 rfl ?_
    refine r_callV1 MM dX3_size_61 ck_X3_106 vk_X2_part ⟨by omega, by omega, by omega⟩ ⟨by decide, by decide, rfl⟩ (by decide) (Nat.le_of_ble_eq_true rfl) (cn_partE hI hwo (by omega) ?_)
    refine r_pop M dX3_size_64 ?_
    refine r_iconst M dX3_size_65 ?_
    refine r_istore_2 M dX3_size_66 (by decide) rfl ?_
    refine r_iconst M dX3_size_67 ?_
    refine r_istore_3 M dX3_size_68 (by decide) rfl ?_
    refine k_S (S1 := fS (wp (entS S (szW S) (fun _ => need S) (cN S)) (prS S (szW S) (fun _ => need S) (need S)).1) 5 (fun i => S 4 i 5 + grw S i) 0) ?_ (fS_0 _ _ _).symm
    refine fz (P := fun l => K 1 69 [some (vR 0 0), some (vI (need S)), some (vI (smN (grw S) l)), some (vI (l : Int))] [] (fS (wp (entS S (szW S) (fun _ => need S) (cN S)) (prS S (szW S) (fun _ => need S) (need S)).1) 5 (fun i => S 4 i 5 + grw S i) l)) (m := cN S) ?_ ?_
    · refine r_iload_n M dX3_size_69 rfl ?_
      refine r_aload_n M dX3_size_70 rfl ?_
      refine r_getV M dX3_size_71 fk_X3_29 (by decide) rfl (S 0 0 3) (by rfl) ?_
      refine r_icmp_ge M dX3_size_74 (tgt := 103) rfl (by omega) (fun b74 => ?_) (fun b74 => by omega)
      refine r_iload_n M dX3_size_103 rfl ?_
      refine r_iret MM dX3_size_104 ?_
      exact hok q7
    · intro l hl hP
      have hm := hI.mem (show l < 10 by omega)
      unfold MI at hm
      have hp1 := hpo.1 l (by omega)
      have hb9 : entS S (szW S) (fun _ => need S) (cN S) 9 0 l = need S := by
        show (if 0 = 0 ∧ l < cN S then need S else S 9 0 l) = _
        rw [if_pos ⟨rfl, hl⟩]
      have hp2 : 0 ≤ (prS S (szW S) (fun _ => need S) (need S)).1 l ∧ (prS S (szW S) (fun _ => need S) (need S)).1 l ≤ 2000000 := by
        unfold prS
        rw [hb9] at hp1
        omega
      refine r_iload_n M dX3_size_69 rfl ?_
      refine r_aload_n M dX3_size_70 rfl ?_
      refine r_getV M dX3_size_71 fk_X3_29 (by decide) rfl (S 0 0 3) (by rfl) ?_
      refine r_icmp_ge M dX3_size_74 (tgt := 103) rfl (by omega) (fun b74 => by omega) (fun b74 => ?_)
      refine r_iload_n M dX3_size_77 rfl ?_
      refine r_aload_n M dX3_size_78 rfl ?_
      refine r_getR M dX3_size_79 fk_X3_11 (by decide) rfl ?_
      refine r_iload_n M dX3_size_82 rfl ?_
      refine r_aaldM M (_) dX3_size_83 rfl (by omega) ?_
      refine r_aload_n M dX3_size_84 rfl ?_
      refine r_getR M dX3_size_85 fk_X3_25 (by decide) rfl ?_
      refine r_iload_n M dX3_size_88 rfl ?_
      refine r_callV1 MM dX3_size_89 ck_X3_110 vk_X2_partOf ⟨by omega, by omega, by omega⟩ ⟨by decide, by decide, rfl⟩ (by decide) (Nat.le_of_ble_eq_true rfl) (cn_partOfV (v := (prS S (szW S) (fun _ => need S) (need S)).1 l) (by omega) rfl ?_)
      refine r_callV1 MM dX3_size_92 ck_X3_113 vk_X1_raiseShare ⟨by omega, by omega, by omega⟩ ⟨by decide, by decide, rfl⟩ (show (_ : Nat) < 10 by omega) (Nat.le_of_ble_eq_true rfl) (cn_raiseV (by omega) (by omega) (v := S 4 l 5) (fS_at _ _ _ _) (by omega) ?_)
      refine r_iadd M dX3_size_95 ?_
      refine r_istore_2 M dX3_size_96 (by decide) rfl ?_
      refine r_iinc_3 M (_) dX3_size_97 rfl (by decide) rfl ?_
      refine r_goto M dX3_size_100 (tgt := 69) rfl ?_
      exact k_S hP (fS_s rfl)
  · intro l hl hP c3
    have hm := hI.mem (show l < 10 by omega)
    unfold MI at hm
    refine r_iload_n M dX3_size_11 rfl ?_
    refine r_aload_n M dX3_size_12 rfl ?_
    refine r_getV M dX3_size_13 fk_X3_29 (by decide) rfl (S 0 0 3) (by rfl) ?_
    refine r_icmp_ge M dX3_size_16 (tgt := 56) rfl (by omega) (fun b16 => by omega) (fun b16 => ?_)
    refine r_aload_n M dX3_size_19 rfl ?_
    refine r_getR M dX3_size_20 fk_X3_11 (by decide) rfl ?_
    refine r_iload_n M dX3_size_23 rfl ?_
    refine r_aaldM M (_) dX3_size_24 rfl (by omega) ?_
    refine r_astore_3 M dX3_size_25 (by decide) rfl ?_
    refine r_aload_n M dX3_size_26 rfl ?_
    refine r_getR M dX3_size_27 fk_X3_25 (by decide) rfl ?_
    refine r_iload_n M dX3_size_30 rfl ?_
    refine r_aload_n M dX3_size_31 rfl ?_
    refine r_callV0 MM dX3_size_32 ck_X3_96 vk_X1_isActive ⟨by omega, by omega, by omega⟩ ⟨by decide, by decide, rfl⟩ (show (_ : Nat) < 10 by omega) (Nat.le_of_ble_eq_true rfl) (cn_isActiveV (by omega) (v := S 4 l 3) rfl (by omega) (fun hq => ?_) (fun hq => ?_))
    · refine r_if_eq M dX3_size_35 (tgt := 45) rfl (by omega) (fun b35 => by omega) (fun b35 => ?_)
      refine r_aload_n M dX3_size_38 rfl ?_
      refine r_getV M dX3_size_39 fk_X3_100 (show (_ : Nat) < 10 by omega) rfl (S 4 l 4) (by rfl) ?_
      refine r_goto M dX3_size_42 (tgt := 46) rfl ?_
      refine r_iload_n M dX3_size_46 rfl ?_
      refine r_callV3 MM dX3_size_47 ck_X3_103 vk_X2_enter ⟨by omega, by omega, by omega⟩ ⟨by decide, by decide, rfl⟩ (by decide) (Nat.le_of_ble_eq_true rfl) (cn_enter (by omega) _ _ ?_)
      refine r_iinc_2 M (_) dX3_size_50 rfl (by decide) rfl ?_
      refine r_goto M dX3_size_53 (tgt := 11) rfl ?_
      exact k_S (hP _) (entS_s (by unfold szW; first | (rw [if_pos hq]; done) | (rw [if_neg hq]; done)) rfl)
    refine r_if_eq M dX3_size_35 (tgt := 45) rfl (by omega) (fun b35 => ?_) (fun b35 => by omega)
    refine r_iconst M dX3_size_45 ?_
    refine r_iload_n M dX3_size_46 rfl ?_
    refine r_callV3 MM dX3_size_47 ck_X3_103 vk_X2_enter ⟨by omega, by omega, by omega⟩ ⟨by decide, by decide, rfl⟩ (by decide) (Nat.le_of_ble_eq_true rfl) (cn_enter (by omega) _ _ ?_)
    refine r_iinc_2 M (_) dX3_size_50 rfl (by decide) rfl ?_
    refine r_goto M dX3_size_53 (tgt := 11) rfl ?_
    exact k_S (hP _) (entS_s (by unfold szW; first | (rw [if_pos hq]; done) | (rw [if_neg hq]; done)) rfl)
theorem cn_findsHost {lots : Int} (hl : 0 ≤ lots ∧ lots ≤ 20) (hc : 0 ≤ S 0 0 3 ∧ S 0 0 3 ≤ 10) (hM : ∀ i, i < 10 → MI S i) (h1 : ∀ j, hostN S lots (cN S) = some j → Ret (some (vI 1)) (takeS S j lots)) (h0 : hostN S lots (cN S) = none → Ret (some (vI 0)) S) : Cn g yX3_findsHost cX3_findsHost 3 (some .boolean) 2 41 0 [vR 0 0, vI lots] S Ret Thr := by
  refine enter (L := [some (vR 0 0), some (vI lots), none]) (by decide +kernel) (Nat.le_of_ble_eq_true rfl) rfl (fun K MM => ?_)
  have M := MM.mk
  have hcl : cN S ≤ 10 := by unfold cN; omega
  have hce : ((cN S : Nat) : Int) = S 0 0 3 := by unfold cN; omega
  refine r_iconst M dX3_findsHost_0 ?_
  refine r_istore_2 M dX3_findsHost_1 (by decide) rfl ?_
  refine fz (P := fun l => (∀ i, i < l → ¬ (actv S i ∧ taken S i lots)) → K 0 2 [some (vR 0 0), some (vI lots), some (vI (l : Int))] [] S) (m := cN S) ?_ ?_ (fun i hi => by omega)
  · intro hno
    refine r_iload_n M dX3_findsHost_2 rfl ?_
    refine r_aload_n M dX3_findsHost_3 rfl ?_
    refine r_getI M dX3_findsHost_4 fk_X3_29 (by decide) rfl ?_
    refine r_icmp_ge M dX3_findsHost_7 (tgt := 43) rfl (by omega) (fun b7 => ?_) (fun b7 => by omega)
    refine r_iconst M dX3_findsHost_43 ?_
    refine r_zret MM dX3_findsHost_44 (by omega) ?_
    exact h0 (hostN_no _ hno)
  · intro l hl9 hP hno
    have hm := hM l (by omega)
    unfold MI at hm
    have hnext : ¬ (actv S l ∧ taken S l lots) → ∀ i, i < l + 1 → ¬ (actv S i ∧ taken S i lots) := fun q i hi => by
      by_cases e : i = l
      · subst e; exact q
      · exact hno i (by omega)
    refine r_iload_n M dX3_findsHost_2 rfl ?_
    refine r_aload_n M dX3_findsHost_3 rfl ?_
    refine r_getI M dX3_findsHost_4 fk_X3_29 (by decide) rfl ?_
    refine r_icmp_ge M dX3_findsHost_7 (tgt := 43) rfl (by omega) (fun b7 => by omega) (fun b7 => ?_)
    refine r_aload_n M dX3_findsHost_10 rfl ?_
    refine r_getR M dX3_findsHost_11 fk_X3_11 (by decide) rfl ?_
    refine r_iload_n M dX3_findsHost_14 rfl ?_
    refine r_aaldM M (_) dX3_findsHost_15 rfl (by omega) ?_
    refine r_callV0 MM dX3_findsHost_16 ck_X3_96 vk_X1_isActive ⟨by omega, by omega, by omega⟩ ⟨by decide, by decide, rfl⟩ (show (_ : Nat) < 10 by omega) (Nat.le_of_ble_eq_true rfl) (cn_isActive (by omega) (by omega) (fun hq => ?_) (fun hq => ?_))
    · refine r_if_eq M dX3_findsHost_19 (tgt := 37) rfl (by omega) (fun b19 => by omega) (fun b19 => ?_)
      refine r_aload_n M dX3_findsHost_22 rfl ?_
      refine r_getR M dX3_findsHost_23 fk_X3_11 (by decide) rfl ?_
      refine r_iload_n M dX3_findsHost_26 rfl ?_
      refine r_aaldM M (_) dX3_findsHost_27 rfl (by omega) ?_
      refine r_iload_n M dX3_findsHost_28 rfl ?_
      refine r_callV1 MM dX3_findsHost_29 ck_X3_69 vk_X1_takesClient ⟨by omega, by omega, by omega⟩ ⟨by decide, by decide, rfl⟩ (show (_ : Nat) < 10 by omega) (Nat.le_of_ble_eq_true rfl) (cn_takesClient (by omega) (by omega) (by omega) (by omega) (by omega) (fun hq2 => ?_) (fun hq2 => ?_))
      · refine r_if_eq M dX3_findsHost_32 (tgt := 37) rfl (by omega) (fun b32 => by omega) (fun b32 => ?_)
        refine r_iconst M dX3_findsHost_35 ?_
        refine r_zret MM dX3_findsHost_36 (by omega) ?_
        exact h1 l (hostN_first ⟨hq, hq2⟩ hno _ hl9)
      refine r_if_eq M dX3_findsHost_32 (tgt := 37) rfl (by omega) (fun b32 => ?_) (fun b32 => by omega)
      refine r_iinc_2 M (_) dX3_findsHost_37 rfl (by decide) rfl ?_
      refine r_goto M dX3_findsHost_40 (tgt := 2) rfl ?_
      first | exact hP (hnext (fun q => hq q.1)) | exact hP (hnext (fun q => hq2 q.2))
    refine r_if_eq M dX3_findsHost_19 (tgt := 37) rfl (by omega) (fun b19 => ?_) (fun b19 => by omega)
    refine r_iinc_2 M (_) dX3_findsHost_37 rfl (by decide) rfl ?_
    refine r_goto M dX3_findsHost_40 (tgt := 2) rfl ?_
    first | exact hP (hnext (fun q => hq q.1)) | exact hP (hnext (fun q => hq2 q.2))
theorem cn_moveClients {i : Nat} (hi : i < 10) (hna : ¬ actv S i) (hc : 0 ≤ S 0 0 3 ∧ S 0 0 3 ≤ 10) (hM : ∀ i, i < 10 → MI S i) (h : Ret (some (vI (movS S i).2)) (movS S i).1) : Cn g yX3_moveClients cX3_moveClients 5 (some .int) 3 63 0 [vR 0 0, vR 4 i] S Ret Thr := by
  refine enter (L := [some (vR 0 0), some (vR 4 i), none, none, none]) (by decide +kernel) (Nat.le_of_ble_eq_true rfl) rfl (fun K MM => ?_)
  have M := MM.mk
  have hmi := hM i hi
  unfold MI at hmi
  have hcnt : (((S 4 i 1).toNat : Nat) : Int) = S 4 i 1 := by omega
  refine r_iconst M dX3_moveClients_0 ?_
  refine r_istore_2 M dX3_moveClients_1 (by decide) rfl ?_
  refine r_iconst M dX3_moveClients_2 ?_
  refine r_istore_3 M dX3_moveClients_3 (by decide) rfl ?_
  refine fz (P := fun l => ∀ c4, K 0 4 [some (vR 0 0), some (vR 4 i), some (vI (mvN S i l).2), some (vI (l : Int)), c4] [] (mvN S i l).1) (m := (S 4 i 1).toNat) ?_ ?_ _
  · intro c4
    have hk := mvN_keep hna (S 4 i 1).toNat
    refine r_iload_n M dX3_moveClients_4 rfl ?_
    refine r_aload_n M dX3_moveClients_5 rfl ?_
    refine r_getV M dX3_moveClients_6 fk_X3_191 (show (_ : Nat) < 10 by omega) rfl (S 4 i 1) (by exact hk.2.2.1 1) ?_
    refine r_icmp_ge M dX3_moveClients_9 (tgt := 40) rfl (by omega) (fun b9 => ?_) (fun b9 => by omega)
    refine r_aload_n M dX3_moveClients_40 rfl ?_
    refine r_callV0 MM dX3_moveClients_41 ck_X3_201 vk_X1_dropClients ⟨by omega, by omega, by omega⟩ ⟨by decide, by decide, rfl⟩ (show (_ : Nat) < 10 by omega) (Nat.le_of_ble_eq_true rfl) (cn_dropClients hi ?_)
    refine r_iload_n M dX3_moveClients_44 rfl ?_
    refine r_iret MM dX3_moveClients_45 ?_
    exact h
  · intro l hl hP c4
    have hk := mvN_keep hna l
    have hMl := mvN_MI hi hM l (by omega)
    have hlr := hmi.2.2.2.2.2.2.2.2.2.2 l (by omega)
    have h0 : (mvN S i l).1 0 = S 0 := hk.1 0 (by omega) (by omega)
    have hcl : 0 ≤ (mvN S i l).1 0 0 3 ∧ (mvN S i l).1 0 0 3 ≤ 10 := by rw [h0]; exact hc
    refine r_iload_n M dX3_moveClients_4 rfl ?_
    refine r_aload_n M dX3_moveClients_5 rfl ?_
    refine r_getV M dX3_moveClients_6 fk_X3_191 (show (_ : Nat) < 10 by omega) rfl (S 4 i 1) (by exact hk.2.2.1 1) ?_
    refine r_icmp_ge M dX3_moveClients_9 (tgt := 40) rfl (by omega) (fun b9 => by omega) (fun b9 => ?_)
    refine r_aload_n M dX3_moveClients_12 rfl ?_
    refine r_getR M dX3_moveClients_13 fk_X3_194 (show (_ : Nat) < 10 by omega) rfl ?_
    refine r_iload_n M dX3_moveClients_16 rfl ?_
    refine r_ialdV M (_) dX3_moveClients_17 ⟨rfl, by decide⟩ (show (_ : Nat) < 10 by omega) rfl (show (_ : Nat) < 100 by omega) (Nat.le_of_ble_eq_true rfl) (S 5 i l) (by rw [hk.2.2.2]) ?_
    refine r_istore_4 M dX3_moveClients_18 (by decide) rfl ?_
    refine r_aload_n M dX3_moveClients_20 rfl ?_
    refine r_iload M dX3_moveClients_21 rfl ?_
    refine r_callV1 MM dX3_moveClients_23 ck_X3_198 vk_X3_findsHost ⟨by omega, by omega, by omega⟩ ⟨by decide, by decide, rfl⟩ (by decide) (Nat.le_of_ble_eq_true rfl) (cn_findsHost hlr hcl hMl (fun j hj => ?_) (fun hj => ?_))
    · refine r_if_ne M dX3_moveClients_26 (tgt := 34) rfl (by omega) (fun b26 => ?_) (fun b26 => by omega)
      refine r_iinc_3 M (_) dX3_moveClients_34 rfl (by decide) rfl ?_
      refine r_goto M dX3_moveClients_37 (tgt := 4) rfl ?_
      have e : mvN S i (l + 1) = ((mv1 (mvN S i l).1 (S 5 i l)).1, (mvN S i l).2 + (mv1 (mvN S i l).1 (S 5 i l)).2) := rfl; unfold mv1 at e; rw [hj] at e; rw [e] at hP; first | exact hP _ | (have h9 := hP (some (vI (S 5 i l))); simp only [Int.add_zero] at h9; exact h9)
    refine r_if_ne M dX3_moveClients_26 (tgt := 34) rfl (by omega) (fun b26 => by omega) (fun b26 => ?_)
    refine r_iload_n M dX3_moveClients_29 rfl ?_
    refine r_iload M dX3_moveClients_30 rfl ?_
    refine r_iadd M dX3_moveClients_32 ?_
    refine r_istore_2 M dX3_moveClients_33 (by decide) rfl ?_
    refine r_iinc_3 M (_) dX3_moveClients_34 rfl (by decide) rfl ?_
    refine r_goto M dX3_moveClients_37 (tgt := 4) rfl ?_
    have e : mvN S i (l + 1) = ((mv1 (mvN S i l).1 (S 5 i l)).1, (mvN S i l).2 + (mv1 (mvN S i l).1 (S 5 i l)).2) := rfl; unfold mv1 at e; rw [hj] at e; rw [e] at hP; first | exact hP _ | (have h9 := hP (some (vI (S 5 i l))); simp only [Int.add_zero] at h9; exact h9)
end XBig
