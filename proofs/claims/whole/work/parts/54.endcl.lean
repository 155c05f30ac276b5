/-! ===== close: who leaves, two sides ===== -/
section ENDCL
theorem lose_4 (X : St) (i j k : Nat) : loseS X i 4 j k = if j = i ∧ (k = 1 ∨ k = 2 ∨ k = 4 ∨ k = 5 ∨ k = 7) then 0 else X 4 j k := by
  unfold loseS dropS up3
  by_cases q : j = i
  · subst q
    by_cases h1 : k = 1
    · simp [h1]
    · by_cases h2 : k = 2
      · simp [h2]
      · by_cases h4 : k = 4
        · simp [h4]
        · by_cases h5 : k = 5
          · simp [h5]
          · by_cases h7 : k = 7
            · simp [h7]
            · simp [h1, h2, h4, h5, h7]
  · simp [q]
theorem enN_4 (X : St) : ∀ l j k, enN X l 4 j k = if j < l ∧ X 4 j 3 = 1 then (if k = 3 then 3 else if k = 1 ∨ k = 2 ∨ k = 4 ∨ k = 5 ∨ k = 7 then 0 else X 4 j k) else X 4 j k
  | 0, j, k => by
    show X 4 j k = _
    rw [if_neg (by omega)]
  | l + 1, j, k => by
    have ih := enN_4 X l
    rw [enN_succ]
    by_cases q : X 4 l 3 = 1
    · rw [if_pos q, lose_4]
      by_cases e : j = l
      · subst e
        rw [if_pos (show j < j + 1 ∧ X 4 j 3 = 1 from ⟨by omega, q⟩)]
        have e3 : up3 (enN X j) 4 j 3 3 4 j k = if k = 3 then 3 else enN X j 4 j k := by simp [up3]
        rw [e3, ih j k, if_neg (show ¬ (j < j ∧ X 4 j 3 = 1) by omega)]
        by_cases h3 : k = 3
        · rw [if_pos h3, if_pos h3, if_neg (by omega)]
        · rw [if_neg h3, if_neg h3]
          by_cases h9 : k = 1 ∨ k = 2 ∨ k = 4 ∨ k = 5 ∨ k = 7
          · rw [if_pos ⟨rfl, h9⟩, if_pos h9]
          · rw [if_neg (fun z => h9 z.2), if_neg h9]
      · rw [if_neg (fun z => e z.1)]
        have e3 : up3 (enN X l) 4 l 3 3 4 j k = enN X l 4 j k := by simp [up3, e]
        rw [e3, ih j k]
        by_cases h9 : j < l ∧ X 4 j 3 = 1
        · rw [if_pos h9, if_pos (show j < l + 1 ∧ X 4 j 3 = 1 from ⟨by omega, h9.2⟩)]
        · rw [if_neg h9, if_neg (fun z => h9 ⟨by omega, z.2⟩)]
    · rw [if_neg q, ih j k]
      by_cases h9 : j < l ∧ X 4 j 3 = 1
      · rw [if_pos h9, if_pos (show j < l + 1 ∧ X 4 j 3 = 1 from ⟨by omega, h9.2⟩)]
      · rw [if_neg h9, if_neg (fun z => h9 ⟨by
          by_cases e : j = l
          · subst e; exact absurd z.2 q
          · omega, z.2⟩)]
theorem emN_f (Y : St) (hO : mO Y) : ∀ l, (∀ j, emN Y l 17 0 j = if j < l ∧ Y 17 0 j = 1 then 3 else Y 17 0 j) ∧ (∀ j, emN Y l 12 0 j = if j < l ∧ Y 17 0 j = 1 then 0 else Y 12 0 j) ∧ (∀ j, emN Y l 13 0 j = if j < l ∧ Y 17 0 j = 1 then 0 else Y 13 0 j) ∧ (∀ j, emN Y l 15 0 j = if j < l ∧ Y 17 0 j = 1 then 0 else Y 15 0 j) ∧
    (∀ c, emN Y l 21 0 c = if c < nC Y ∧ 0 ≤ Y 21 0 c ∧ (Y 21 0 c).toNat < l ∧ Y 17 0 (Y 21 0 c).toNat = 1 then -1 else Y 21 0 c)
  | 0 => ⟨fun j => by rw [if_neg (by omega)]; rfl, fun j => by rw [if_neg (by omega)]; rfl, fun j => by rw [if_neg (by omega)]; rfl, fun j => by rw [if_neg (by omega)]; rfl, fun c => by rw [if_neg (by omega)]; rfl⟩
  | l + 1 => by
    obtain ⟨h1, h2, h3, h4, h5⟩ := emN_f Y hO l
    have hk := emN_keep hO l
    have hnC : nC (emN Y l) = nC Y := by unfold nC; rw [hk.1 11 (by omega) (by omega) (by omega) (by omega) (by omega)]
    have hem := emM_keep (emN Y l) l 3
    have cut : ∀ {x y z : Int} (j : Nat), Y 17 0 l = 1 → (z = if j < l ∧ Y 17 0 j = 1 then x else y) → (if j = l then x else z) = if j < l + 1 ∧ Y 17 0 j = 1 then x else y := fun {x y z} j q hz => by
      by_cases e : j = l
      · rw [if_pos e, if_pos ⟨by omega, by rw [e]; exact q⟩]
      · rw [if_neg e, hz]
        by_cases h9 : j < l ∧ Y 17 0 j = 1
        · rw [if_pos h9, if_pos ⟨by omega, h9.2⟩]
        · rw [if_neg h9, if_neg (fun w => h9 ⟨by omega, w.2⟩)]
    have cutn : ∀ {x y z : Int} (j : Nat), ¬ Y 17 0 l = 1 → (z = if j < l ∧ Y 17 0 j = 1 then x else y) → z = if j < l + 1 ∧ Y 17 0 j = 1 then x else y := fun {x y z} j q hz => by
      rw [hz]
      by_cases h9 : j < l ∧ Y 17 0 j = 1
      · rw [if_pos h9, if_pos ⟨by omega, h9.2⟩]
      · rw [if_neg h9, if_neg (fun w => h9 ⟨by
          by_cases e : j = l
          · subst e; exact absurd w.2 q
          · omega, w.2⟩)]
    rw [emN_succ]
    by_cases q : Y 17 0 l = 1
    · rw [if_pos q]
      refine ⟨fun j => (hem.2.1 j).trans (cut j q (h1 j)), fun j => (hem.2.2.1 j).trans (cut j q (h2 j)), fun j => (hem.2.2.2.1 j).trans (cut j q (h3 j)), fun j => (hem.2.2.2.2.1 j).trans (cut j q (h4 j)), fun c => ?_⟩
      rw [hem.2.2.2.2.2 c, hnC, h5 c]
      by_cases h9 : c < nC Y ∧ 0 ≤ Y 21 0 c ∧ (Y 21 0 c).toNat < l ∧ Y 17 0 (Y 21 0 c).toNat = 1
      · rw [if_pos h9, if_neg (by omega), if_pos ⟨h9.1, h9.2.1, by omega, h9.2.2.2⟩]
      · rw [if_neg h9]
        by_cases h8 : c < nC Y ∧ Y 21 0 c = l
        · rw [if_pos h8, if_pos ⟨h8.1, by omega, by omega, by rw [h8.2]; simpa using q⟩]
        · rw [if_neg h8, if_neg (fun w => by
            by_cases e : (Y 21 0 c).toNat = l
            · exact h8 ⟨w.1, by omega⟩
            · exact h9 ⟨w.1, w.2.1, by omega, w.2.2.2⟩)]
    · rw [if_neg q]
      refine ⟨fun j => cutn j q (h1 j), fun j => cutn j q (h2 j), fun j => cutn j q (h3 j), fun j => cutn j q (h4 j), fun c => ?_⟩
      rw [h5 c]
      by_cases h9 : c < nC Y ∧ 0 ≤ Y 21 0 c ∧ (Y 21 0 c).toNat < l ∧ Y 17 0 (Y 21 0 c).toNat = 1
      · rw [if_pos h9, if_pos ⟨h9.1, h9.2.1, by omega, h9.2.2.2⟩]
      · rw [if_neg h9, if_neg (fun w => h9 ⟨w.1, w.2.1, by
          by_cases e : (Y 21 0 c).toNat = l
          · rw [e] at w; exact absurd w.2.2.2 q
          · omega, w.2.2.2⟩)]
/-- what the chain leaves alone -/
def KP (C C' : St) : Prop := (∀ i k, k ≠ 5 → k ≠ 7 → k ≠ 9 → k ≠ 10 → k ≠ 11 → C' 4 i k = C 4 i k) ∧ (∀ t, t ≠ 0 → t ≠ 4 → t ≠ 8 → t ≠ 9 → t ≠ 10 → C' t = C t) ∧ (∀ k, k ≠ 4 → k ≠ 5 → k ≠ 6 → C' 0 0 k = C 0 0 k)
theorem KP.trans {A B C : St} (h1 : KP A B) (h2 : KP B C) : KP A C := ⟨fun i k a b c d e => (h2.1 i k a b c d e).trans (h1.1 i k a b c d e), fun t a b c d e => (h2.2.1 t a b c d e).trans (h1.2.1 t a b c d e), fun k a b c => (h2.2.2 k a b c).trans (h1.2.2 k a b c)⟩
theorem KP_eat (C : St) {w b f : Nat → Int} {a : Int} {fld : Nat} (hf : fld = 5 ∨ fld = 7 ∨ fld = 10) : KP C (eatS C w b a fld f) := by
  refine ⟨fun i k h1 h2 h3 h4 h5 => by rw [eat_4, if_neg (by omega)], fun t h1 h2 h3 h4 h5 => ?_, fun k h1 h2 h3 => ?_⟩
  · funext u v
    unfold eatS fS wp upT entS
    rw [if_neg (fun z => h2 z.1), if_neg (fun z => h5 z.1), if_neg h3, if_neg h4]
  · rfl
theorem KP_up (C : St) {k : Nat} {x : Int} (hk : k = 4 ∨ k = 5 ∨ k = 6) : KP C (up3 C 0 0 k x) := by
  refine ⟨fun i k h1 h2 h3 h4 h5 => rfl, fun t h1 h2 h3 h4 h5 => ?_, fun k2 h1 h2 h3 => ?_⟩
  · funext u v
    simp [up3, h1]
  · unfold up3
    rw [if_neg (by omega)]
theorem KP_cl2 (C : St) (i : Nat) : KP C (cl2 C i) ∧ KP C (ea4 (cl1 C) i).1 := by
  have h1 : KP C (awN C (C 2 0 1).toNat).1 := by
    have hk := awN_keep C (C 2 0 1).toNat
    exact ⟨fun i k a b c d e => hk.2 i k e, fun t a b c d e => hk.1 t b, fun k a b c => by rw [hk.1 0 (by omega)]⟩
  have h2 : KP C (cl1 C) := (h1.trans (KP_up _ (Or.inr (Or.inl rfl)))).trans (by
    refine ⟨fun i k a b c d e => ?_, fun t a b c d e => ?_, fun k a b c => rfl⟩
    · show (if 4 = 4 ∧ k = 9 ∧ _ then _ else _) = _
      exact if_neg (fun z => c z.2.1)
    · funext u v
      exact if_neg (fun z => b z.1))
  have h3 : KP C (ea0 (cl1 C) i).1 := h2.trans (KP_up _ (Or.inl rfl))
  have h4 : KP C (ea1 (cl1 C) i).1 := h3.trans (KP_eat _ (Or.inl rfl))
  have h5 : KP C (ea2 (cl1 C) i).1 := h4.trans (KP_eat _ (Or.inl rfl))
  have h6 : KP C (ea3 (cl1 C) i).1 := h5.trans (KP_eat _ (Or.inr (Or.inr rfl)))
  have h7 : KP C (ea4 (cl1 C) i).1 := h6.trans (KP_eat _ (Or.inr (Or.inl rfl)))
  exact ⟨h7.trans (KP_up _ (Or.inr (Or.inr rfl))), h7⟩
def KM (M M' : St) : Prop := (∀ t, t ≠ 11 → t ≠ 13 → t ≠ 15 → t ≠ 18 → t ≠ 19 → t ≠ 20 → t ≠ 26 → t ≠ 27 → t ≠ 28 → M' t = M t) ∧ ∀ c, c ≠ 15 → c ≠ 16 → c ≠ 17 → M' 11 0 c = M 11 0 c
theorem KM.trans {A B C : St} (h1 : KM A B) (h2 : KM B C) : KM A C := ⟨fun t a b c d e f g h i => (h2.1 t a b c d e f g h i).trans (h1.1 t a b c d e f g h i), fun k a b c => (h2.2 k a b c).trans (h1.2 k a b c)⟩
theorem KM_et (M : St) {w b f : Nat → Int} {a : Int} {T : Nat} (hf : T = 13 ∨ T = 15 ∨ T = 19) : KM M (etM M w b a T f) := by
  refine ⟨fun t h1 h2 h3 h4 h5 h6 h7 h8 h9 => ?_, fun c h1 h2 h3 => ?_⟩
  · funext u v
    show (if t = T ∧ u = 0 ∧ v < nM M then f v else wpM (entM M w b (nM M)) _ t u v) = _
    rw [if_neg (by omega)]
    unfold wpM upT entM aS
    rw [if_neg (by omega), if_neg (by omega), if_neg (by omega)]
  · rw [et_T _ _ _ _ _ _ _ _ (by omega), if_neg (by omega)]
theorem KM_up (M : St) {k : Nat} {x : Int} (hk : k = 15 ∨ k = 16 ∨ k = 17) : KM M (up3 M 11 0 k x) := by
  refine ⟨fun t h1 h2 h3 h4 h5 h6 h7 h8 h9 => ?_, fun c h1 h2 h3 => ?_⟩
  · funext u v
    simp [up3, h1]
  · unfold up3
    rw [if_neg (by omega)]
theorem KM_mcl2 (M : St) (i : Nat) : KM M (mcl2 M i) := by
  have h1 : KM M (awM M (nB M)).1 := ⟨fun t a b c d e f g h i => awM_keep M (nB M) t f, fun c a b d => by rw [awM_keep M (nB M) 11 (by omega)]⟩
  have h2 : KM M (rkM (awM M (nB M)).1 (nM M)) := h1.trans ⟨fun t a b c d e f g h i => by
    funext u v
    exact if_neg (fun z => d z.1), fun c a b d => rfl⟩
  have h3 : KM M (mcl1 M) := h2.trans (KM_up _ (Or.inr (Or.inl rfl)))
  have h4 : KM M (me0 (mcl1 M) i).1 := h3.trans (KM_up _ (Or.inl rfl))
  have h5 : KM M (me1 (mcl1 M) i).1 := h4.trans (KM_et _ (Or.inl rfl))
  have h6 : KM M (me2 (mcl1 M) i).1 := h5.trans (KM_et _ (Or.inl rfl))
  have h7 : KM M (me3 (mcl1 M) i).1 := h6.trans (KM_et _ (Or.inr (Or.inr rfl)))
  have h8 : KM M (me4 (mcl1 M) i).1 := h7.trans (KM_et _ (Or.inr (Or.inl rfl)))
  exact h8.trans (KM_up _ (Or.inr (Or.inr rfl)))
end ENDCL
