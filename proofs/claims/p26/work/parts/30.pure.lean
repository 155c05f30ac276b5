/-! ===== facts of the states, from the proof of whole ===== -/
theorem up3_t {S : St} {t i k t' : Nat} {v : Int} (h : t' ≠ t) : up3 S t i k v t' = S t' := by
  funext a c
  exact if_neg (fun z => h z.1)
theorem up3_k {S : St} {t i k t' i' k' : Nat} {v : Int} (h : k' ≠ k) : up3 S t i k v t' i' k' = S t' i' k' := if_neg (fun z => h z.2.2)
theorem up3_at {S : St} {t i k : Nat} {v : Int} : up3 S t i k v t i k = v := if_pos ⟨rfl, rfl, rfl⟩
theorem eat_4 (C : St) (w b : Nat → Int) (a : Int) (fld : Nat) (f : Nat → Int) (i k : Nat) : eatS C w b a fld f 4 i k = if k = fld ∧ i < cN C then f i else C 4 i k := by
  show (if 4 = 4 ∧ k = fld ∧ i < cN C then f i else C 4 i k) = _
  by_cases q : k = fld ∧ i < cN C
  · rw [if_pos ⟨rfl, q⟩, if_pos q]
  · rw [if_neg (fun z => q z.2), if_neg q]
theorem smN_cong {f h : Nat → Int} : ∀ {m : Nat}, (∀ k, k < m → f k = h k) → smN f m = smN h m
  | 0, _ => rfl
  | m + 1, e => by
    show smN f m + f m = smN h m + h m
    rw [smN_cong (fun k hk => e k (by omega)), e m (by omega)]
theorem smN_upd {f h : Nat → Int} {j : Nat} {d : Int} : ∀ {m : Nat}, j < m → (∀ k, k ≠ j → f k = h k) → f j = h j + d → smN f m = smN h m + d
  | m + 1, hj, e, ej => by
    show smN f m + f m = smN h m + h m + d
    by_cases q : j = m
    · subst q
      rw [smN_cong (fun k hk => e k (by omega)), ej]
      omega
    · rw [smN_upd (show j < m by omega) e ej, e m (Ne.symm q)]
      omega
theorem CI_cong {S M : St} (hT : ∀ t, t < 11 → M t = S t) (h : CI S) : CI M := by
  unfold CI smA smP MI at h ⊢
  rw [hT 0 (by omega), hT 2 (by omega), hT 4 (by omega), hT 5 (by omega), hT 7 (by omega), hT 8 (by omega), hT 9 (by omega), hT 10 (by omega)]
  exact h
theorem CI_sz {S : St} (hI : CI S) : CI (szS S) ∧ (∀ i, i < cN S → 0 ≤ grw S i ∧ grw S i ≤ 2000000) := by
  have hw := szW_ok hI
  have hno := need_ok hI
  have hp := partR_ok (po := S 10 0) (okW_ent (l := cN S) hI.2.2.2.2.2.1 hw (by omega : 0 ≤ need S ∧ need S ≤ 100000000))
  have hc3 := hI.1
  have hcn : cN S ≤ 10 := by unfold cN; omega
  have hb : ∀ i, i < cN S → (prS S (szW S) (fun _ => need S) (need S)).1 i ≤ need S := fun i hi => by
    have h1 := (hp.1 i (by omega)).2
    have e9 : entS S (szW S) (fun _ => need S) (cN S) 9 0 i = need S := by
      show (if (0 : Nat) = 0 ∧ i < cN S then need S else S 9 0 i) = _
      rw [if_pos ⟨rfl, hi⟩]
    rw [e9] at h1
    exact h1
  have hg : ∀ i, i < cN S → (0 ≤ grw S i ∧ grw S i ≤ 2000000) ∧ S 4 i 5 + grw S i ≤ 2000000 := fun i hi => by
    have h1 := hb i hi
    have hm := hI.mem (show i < 10 by omega)
    unfold MI at hm
    unfold grw
    omega
  refine ⟨CI_eat hI hw (by omega) (Or.inl ⟨rfl, fun i hi => ?_⟩), fun i hi => (hg i hi).1⟩
  have h1 := hg i hi
  have hm := hI.mem (show i < 10 by omega)
  unfold MI at hm
  omega
theorem lose_4 (X : St) (i j k : Nat) : loseS X i 4 j k = if j = i ∧ (k = 1 ∨ k = 2 ∨ k = 4 ∨ k = 5 ∨ k = 7) then 0 else X 4 j k := by
  unfold loseS dropS up3
  by_cases q : j = i
  · subst q
    by_cases h1 : k = 1
    · simp [h1]
    · by_cases h2 : k = 2
      · simp [h2]
      · by_cases h4 : k = 4
        · simp [h4]
        · by_cases h5 : k = 5
          · simp [h5]
          · by_cases h7 : k = 7
            · simp [h7]
            · simp [h1, h2, h4, h5, h7]
  · simp [q]
theorem enN_4 (X : St) : ∀ l j k, enN X l 4 j k = if j < l ∧ X 4 j 3 = 1 then (if k = 3 then 3 else if k = 1 ∨ k = 2 ∨ k = 4 ∨ k = 5 ∨ k = 7 then 0 else X 4 j k) else X 4 j k
  | 0, j, k => by
    show X 4 j k = _
    rw [if_neg (by omega)]
  | l + 1, j, k => by
    have ih := enN_4 X l
    rw [enN_succ]
    by_cases q : X 4 l 3 = 1
    · rw [if_pos q, lose_4]
      by_cases e : j = l
      · subst e
        rw [if_pos (show j < j + 1 ∧ X 4 j 3 = 1 from ⟨by omega, q⟩)]
        have e3 : up3 (enN X j) 4 j 3 3 4 j k = if k = 3 then 3 else enN X j 4 j k := by simp [up3]
        rw [e3, ih j k, if_neg (show ¬ (j < j ∧ X 4 j 3 = 1) by omega)]
        by_cases h3 : k = 3
        · rw [if_pos h3, if_pos h3, if_neg (by omega)]
        · rw [if_neg h3, if_neg h3]
          by_cases h9 : k = 1 ∨ k = 2 ∨ k = 4 ∨ k = 5 ∨ k = 7
          · rw [if_pos ⟨rfl, h9⟩, if_pos h9]
          · rw [if_neg (fun z => h9 z.2), if_neg h9]
      · rw [if_neg (fun z => e z.1)]
        have e3 : up3 (enN X l) 4 l 3 3 4 j k = enN X l 4 j k := by simp [up3, e]
        rw [e3, ih j k]
        by_cases h9 : j < l ∧ X 4 j 3 = 1
        · rw [if_pos h9, if_pos (show j < l + 1 ∧ X 4 j 3 = 1 from ⟨by omega, h9.2⟩)]
        · rw [if_neg h9, if_neg (fun z => h9 ⟨by omega, z.2⟩)]
    · rw [if_neg q, ih j k]
      by_cases h9 : j < l ∧ X 4 j 3 = 1
      · rw [if_pos h9, if_pos (show j < l + 1 ∧ X 4 j 3 = 1 from ⟨by omega, h9.2⟩)]
      · rw [if_neg h9, if_neg (fun z => h9 ⟨by
          by_cases e : j = l
          · subst e; exact absurd z.2 q
          · omega, z.2⟩)]
/-- what the chain leaves alone -/
def KP (C C' : St) : Prop := (∀ i k, k ≠ 5 → k ≠ 7 → k ≠ 9 → k ≠ 10 → k ≠ 11 → C' 4 i k = C 4 i k) ∧ (∀ t, t ≠ 0 → t ≠ 4 → t ≠ 8 → t ≠ 9 → t ≠ 10 → C' t = C t) ∧ (∀ k, k ≠ 4 → k ≠ 5 → k ≠ 6 → C' 0 0 k = C 0 0 k)
theorem KP.trans {A B C : St} (h1 : KP A B) (h2 : KP B C) : KP A C := ⟨fun i k a b c d e => (h2.1 i k a b c d e).trans (h1.1 i k a b c d e), fun t a b c d e => (h2.2.1 t a b c d e).trans (h1.2.1 t a b c d e), fun k a b c => (h2.2.2 k a b c).trans (h1.2.2 k a b c)⟩
theorem KP_eat (C : St) {w b f : Nat → Int} {a : Int} {fld : Nat} (hf : fld = 5 ∨ fld = 7 ∨ fld = 10) : KP C (eatS C w b a fld f) := by
  refine ⟨fun i k h1 h2 h3 h4 h5 => by rw [eat_4, if_neg (by omega)], fun t h1 h2 h3 h4 h5 => ?_, fun k h1 h2 h3 => ?_⟩
  · funext u v
    unfold eatS fS wp upT entS
    rw [if_neg (fun z => h2 z.1), if_neg (fun z => h5 z.1), if_neg h3, if_neg h4]
  · rfl
theorem KP_up (C : St) {k : Nat} {x : Int} (hk : k = 4 ∨ k = 5 ∨ k = 6) : KP C (up3 C 0 0 k x) := by
  refine ⟨fun i k h1 h2 h3 h4 h5 => rfl, fun t h1 h2 h3 h4 h5 => ?_, fun k2 h1 h2 h3 => ?_⟩
  · funext u v
    simp [up3, h1]
  · unfold up3
    rw [if_neg (by omega)]
theorem KP_cl2 (C : St) (i : Nat) : KP C (cl2 C i) ∧ KP C (ea4 (cl1 C) i).1 := by
  have h1 : KP C (awN C (C 2 0 1).toNat).1 := by
    have hk := awN_keep C (C 2 0 1).toNat
    exact ⟨fun i k a b c d e => hk.2 i k e, fun t a b c d e => hk.1 t b, fun k a b c => by rw [hk.1 0 (by omega)]⟩
  have h2 : KP C (cl1 C) := (h1.trans (KP_up _ (Or.inr (Or.inl rfl)))).trans (by
    refine ⟨fun i k a b c d e => ?_, fun t a b c d e => ?_, fun k a b c => rfl⟩
    · show (if 4 = 4 ∧ k = 9 ∧ _ then _ else _) = _
      exact if_neg (fun z => c z.2.1)
    · funext u v
      exact if_neg (fun z => b z.1))
  have h3 : KP C (ea0 (cl1 C) i).1 := h2.trans (KP_up _ (Or.inl rfl))
  have h4 : KP C (ea1 (cl1 C) i).1 := h3.trans (KP_eat _ (Or.inl rfl))
  have h5 : KP C (ea2 (cl1 C) i).1 := h4.trans (KP_eat _ (Or.inl rfl))
  have h6 : KP C (ea3 (cl1 C) i).1 := h5.trans (KP_eat _ (Or.inr (Or.inr rfl)))
  have h7 : KP C (ea4 (cl1 C) i).1 := h6.trans (KP_eat _ (Or.inr (Or.inl rfl)))
  exact ⟨h7.trans (KP_up _ (Or.inr (Or.inr rfl))), h7⟩
theorem as_10 {C : St} (hc : CI C) {a : Int} (ha : 0 ≤ a ∧ a ≤ 100000000) {j : Nat} (hj : j < 10) : C 4 j 10 ≤ (eaAs C a).1 4 j 10 ∧ (eaAs C a).1 4 j 10 ≤ C 4 j 10 + 2000000 := by
  have hw := asW_ok hc
  have hp := partR_ok (po := C 10 0) (okW_ent (l := cN C) hc.2.2.2.2.2.1 hw ha)
  have e : (eaAs C a).1 4 j 10 = if 10 = 10 ∧ j < cN C then C 4 j 10 + (prS C (asW C) (asB C) a).1 j else C 4 j 10 := eat_4 C (asW C) (asB C) a 10 (fun i => C 4 i 10 + (prS C (asW C) (asB C) a).1 i) j 10
  rw [e]
  by_cases q : j < cN C
  · rw [if_pos ⟨rfl, q⟩]
    have h1 := hp.1 j hj
    have e9 : entS C (asW C) (asB C) (cN C) 9 0 j = asB C j := by
      show (if (0 : Nat) = 0 ∧ j < cN C then asB C j else C 9 0 j) = _
      rw [if_pos ⟨rfl, q⟩]
    rw [e9] at h1
    have hm := hc.mem hj
    have hm12 := hm.2.2.2.2.2.2.2.2.2.1
    have hb : asB C j ≤ 2000000 := by
      unfold asB asW
      split <;> split <;> omega
    have h2 : 0 ≤ (prS C (asW C) (asB C) a).1 j ∧ (prS C (asW C) (asB C) a).1 j ≤ asB C j := h1
    omega
  · rw [if_neg (fun z => q z.2)]
    omega
theorem eaSh_k {C : St} {a j : Int} {i k : Nat} (hk : k ≠ 5) : (eaSh C a j).1 4 i k = C 4 i k := (eat_4 C (shW C j) (fun i => C 4 i 5) a 5 (fun i => C 4 i 5 - (prS C (shW C j) (fun i => C 4 i 5) a).1 i) i k).trans (if_neg (fun z => hk z.1))
theorem eaAs_k {C : St} {a : Int} {i k : Nat} (hk : k ≠ 10) : (eaAs C a).1 4 i k = C 4 i k := (eat_4 C (asW C) (asB C) a 10 (fun i => C 4 i 10 + (prS C (asW C) (asB C) a).1 i) i k).trans (if_neg (fun z => hk z.1))
theorem eaGn_k {C : St} {a : Int} {i k : Nat} (hk : k ≠ 7) : (eaGn C a).1 4 i k = C 4 i k := (eat_4 C (gnW C) (fun i => C 4 i 7) a 7 (fun i => C 4 i 7 - (prS C (gnW C) (fun i => C 4 i 7) a).1 i) i k).trans (if_neg (fun z => hk z.1))
theorem ea0_k {C : St} {i j k : Nat} : (ea0 C i).1 4 j k = C 4 j k := by
  show up3 C 0 0 4 (C 0 0 4 - pd3 C i) 4 j k = _
  unfold up3
  rw [if_neg (fun z => absurd z.1 (by omega))]
theorem cl2_k {C : St} {i j k : Nat} : cl2 C i 4 j k = (ea4 (cl1 C) i).1 4 j k := by
  show up3 (ea4 (cl1 C) i).1 0 0 6 ((ea4 (cl1 C) i).1 0 0 6 + (ea4 (cl1 C) i).2) 4 j k = _
  unfold up3
  rw [if_neg (fun z => absurd z.1 (by omega))]
theorem cl1_k {C : St} {j k : Nat} (hk : k ≠ 9) : cl1 C 4 j k = (awN C (C 2 0 1).toNat).1 4 j k := by
  have e : cl1 C 4 j k = up3 (awN C (C 2 0 1).toNat).1 0 0 5 (max 0 (awN C (C 2 0 1).toNat).2) 4 j k := if_neg (fun z => hk z.2.1)
  rw [e]
  unfold up3
  rw [if_neg (fun z => absurd z.1 (by omega))]
theorem cl2_10 {C : St} (hc : CI C) {i : Nat} (hi : i < 10) {j : Nat} (hj : j < 10) : C 4 j 10 ≤ cl2 C i 4 j 10 ∧ cl2 C i 4 j 10 ≤ C 4 j 10 + 2000000 := by
  have h1 := CI_cl1 hc
  have co := ea_ok h1 hi
  have ha := as_10 (C := (ea2 (cl1 C) i).1) co.2.1.1 (a := (ea2 (cl1 C) i).2) (by omega) hj
  have g2 : (ea2 (cl1 C) i).1 4 j 10 = (ea1 (cl1 C) i).1 4 j 10 := eaSh_k (by omega)
  have g1 : (ea1 (cl1 C) i).1 4 j 10 = (ea0 (cl1 C) i).1 4 j 10 := eaSh_k (by omega)
  have g4 : (ea4 (cl1 C) i).1 4 j 10 = (ea3 (cl1 C) i).1 4 j 10 := eaGn_k (by omega)
  have g3 : (ea3 (cl1 C) i).1 = (eaAs (ea2 (cl1 C) i).1 (ea2 (cl1 C) i).2).1 := by unfold ea3; rfl
  rw [cl2_k, g4, g3]
  rw [g2, g1, ea0_k, cl1_k (by omega), (awN_keep C (C 2 0 1).toNat).2 j 10 (by omega)] at ha
  exact ha
theorem cl2_11 {C : St} {i j : Nat} : cl2 C i 4 j 11 = cl1 C 4 j 11 := by
  have g4 : (ea4 (cl1 C) i).1 4 j 11 = (ea3 (cl1 C) i).1 4 j 11 := eaGn_k (by omega)
  have g3 : (ea3 (cl1 C) i).1 4 j 11 = (ea2 (cl1 C) i).1 4 j 11 := eaAs_k (by omega)
  have g2 : (ea2 (cl1 C) i).1 4 j 11 = (ea1 (cl1 C) i).1 4 j 11 := eaSh_k (by omega)
  have g1 : (ea1 (cl1 C) i).1 4 j 11 = (ea0 (cl1 C) i).1 4 j 11 := eaSh_k (by omega)
  rw [cl2_k, g4, g3, g2, g1, ea0_k]
abbrev zf5 (k : Nat) : Prop := k = 1 ∨ k = 2 ∨ k = 4 ∨ k = 5 ∨ k = 7
theorem cls_4 {S : St} {i : Nat} (h2 : S 4 i 3 = 2) (j k : Nat) : clS S i 4 j k = if j < cN S ∧ S 4 j 3 = 1 then (if k = 3 then 3 else if zf5 k then 0 else cl2 S i 4 j k) else if j = i ∧ zf5 k then 0 else cl2 S i 4 j k := by
  have hk := (KP_cl2 S i).1
  have hn : cN (cl2 S i) = cN S := by unfold cN; rw [hk.2.2 3 (by omega) (by omega) (by omega)]
  have e3 : loseS (cl2 S i) i 4 j 3 = S 4 j 3 := by rw [lose_4, if_neg (by omega), hk.1 j 3 (by omega) (by omega) (by omega) (by omega) (by omega)]
  have e : clS S i 4 j k = enN (loseS (cl2 S i) i) (cN (cl2 S i)) 4 j k := rfl
  rw [e, enN_4, hn, e3, lose_4]
  by_cases q : j < cN S ∧ S 4 j 3 = 1
  · rw [if_pos q, if_pos q]
    have hji : j ≠ i := fun z => by rw [z, h2] at q; omega
    by_cases k3 : k = 3
    · rw [if_pos k3, if_pos k3]
    · rw [if_neg k3, if_neg k3]
      by_cases z5 : zf5 k
      · rw [if_pos z5, if_pos z5]
      · rw [if_neg z5, if_neg z5, if_neg (fun z => hji z.1)]
  · rw [if_neg q, if_neg q]
theorem cls_t {S : St} {i t : Nat} (h0 : t ≠ 0) (h4 : t ≠ 4) (h8 : t ≠ 8) (h9 : t ≠ 9) (h10 : t ≠ 10) : clS S i t = S t := by
  have hk := (KP_cl2 S i).1
  rw [← hk.2.1 t h0 h4 h8 h9 h10]
  have e : clS S i t = enN (loseS (cl2 S i) i) (cN (cl2 S i)) t := by
    funext u v
    show up3 _ 0 0 7 (-1) t u v = _
    unfold up3
    rw [if_neg (fun z => h0 z.1)]
  rw [e, (enN_keep _ _).1 t h4]
  funext u v
  simp [loseS, dropS, up3, h4]
theorem cls_89 {S : St} {i t : Nat} (h0 : t ≠ 0) (h4 : t ≠ 4) : clS S i t = cl2 S i t := by
  have e : clS S i t = enN (loseS (cl2 S i) i) (cN (cl2 S i)) t := by
    funext u v
    show up3 _ 0 0 7 (-1) t u v = _
    unfold up3
    rw [if_neg (fun z => h0 z.1)]
  rw [e, (enN_keep _ _).1 t h4]
  funext u v
  simp [loseS, dropS, up3, h4]
theorem cls_0 {S : St} {i k : Nat} : clS S i 0 0 k = if k = 7 then -1 else cl2 S i 0 0 k := by
  show up3 _ 0 0 7 (-1) 0 0 k = _
  unfold up3
  by_cases q : k = 7
  · rw [if_pos ⟨rfl, rfl, q⟩, if_pos q]
  · rw [if_neg (fun z => q z.2.2), if_neg q, (enN_keep _ _).1 0 (by omega)]
    rfl
theorem CI_cls {S : St} (hc : CI S) {i : Nat} (hi : i < 10) (h2 : S 4 i 3 = 2) : CI (clS S i) := by
  have h1 := CI_cl1 hc
  have co := (ea_ok h1 hi).2.2.2
  have hX : CI (cl2 S i) := CI_00 co.1 (Or.inr (Or.inr rfl))
  obtain ⟨a1, a2, a3, a4, a5, a6, a7⟩ := hX
  refine ⟨by rw [cls_0, if_neg (by omega)]; exact a1, by rw [cls_0, if_neg (by omega)]; exact a2, by rw [cls_0, if_pos rfl]; omega, by rw [cls_0, if_neg (by omega)]; exact a4, ?_, ?_, fun j hj => ?_⟩
  · unfold smA
    rw [cls_89 (t := 2) (by omega) (by omega), cls_89 (t := 7) (by omega) (by omega)]
    exact a5
  · unfold smP
    rw [cls_89 (t := 8) (by omega) (by omega), cls_89 (t := 9) (by omega) (by omega), cls_89 (t := 10) (by omega) (by omega)]
    exact a6
  · have hm := a7 j hj
    unfold MI at hm ⊢
    obtain ⟨b1, b2, b3, b4, b5, b6, b7, b8, b9, b10, b11⟩ := hm
    rw [cls_89 (t := 5) (by omega) (by omega)]
    refine ⟨?_, ?_, ?_, ?_, ?_, ?_, ?_, ?_, ?_, ?_, b11⟩
    all_goals rw [cls_4 h2]; by_cases q : j < cN S ∧ S 4 j 3 = 1
    all_goals first | (rw [if_pos q]; simp [zf5]; done) | (rw [if_pos q]; simp only [zf5, Nat.reduceEqDiff, or_self, or_false, or_true, if_true, if_false, false_or]; first | assumption | omega) | (rw [if_neg q]; simp only [zf5, Nat.reduceEqDiff, or_self, or_false, or_true, and_true, and_false, if_true, if_false, false_or]; first | assumption | (split <;> omega))
