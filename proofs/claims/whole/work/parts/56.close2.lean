/-! ===== close keeps the relation: plain cells ===== -/
section CL3
theorem up3_t {S : St} {t i k t' : Nat} {v : Int} (h : t' ≠ t) : up3 S t i k v t' = S t' := by
  funext a c
  exact if_neg (fun z => h z.1)
theorem up3_k {S : St} {t i k t' i' k' : Nat} {v : Int} (h : k' ≠ k) : up3 S t i k v t' i' k' = S t' i' k' := if_neg (fun z => h z.2.2)
theorem up3_at {S : St} {t i k : Nat} {v : Int} : up3 S t i k v t i k = v := if_pos ⟨rfl, rfl, rfl⟩
theorem rkS_t {S : St} {l t : Nat} (h : t ≠ 4) : rkS S l t = S t := by
  funext a c
  exact if_neg (fun z => h z.1)
theorem rkM_t {S : St} {l t : Nat} (h : t ≠ 18) : rkM S l t = S t := by
  funext a c
  exact if_neg (fun z => h z.1)
theorem cl1_0 {C : St} {k : Nat} (h : k ≠ 5) : cl1 C 0 0 k = C 0 0 k := by
  unfold cl1
  rw [rkS_t (by omega), up3_k h, (awN_keep C _).1 0 (by omega)]
theorem mcl1_11 {M : St} {k : Nat} (h : k ≠ 16) : mcl1 M 11 0 k = M 11 0 k := by
  unfold mcl1
  rw [up3_k h, rkM_t (by omega), awM_keep M _ 11 (by omega)]
def KE (M M' : St) : Prop := ∀ c, M' 11 0 c = M 11 0 c
theorem KE.trans {A B C : St} (h1 : KE A B) (h2 : KE B C) : KE A C := fun c => (h2 c).trans (h1 c)
theorem KE_et (M : St) {w b f : Nat → Int} {a : Int} {T : Nat} (hf : T = 13 ∨ T = 15 ∨ T = 19) : KE M (etM M w b a T f) := fun c => by
  rw [et_T _ _ _ _ _ _ _ _ (by omega), if_neg (by omega)]
theorem KE_me4 (M : St) (i : Nat) : KE (me0 M i).1 (me4 M i).1 := by
  have h5 : KE (me0 M i).1 (me1 M i).1 := KE_et _ (Or.inl rfl)
  have h6 : KE (me0 M i).1 (me2 M i).1 := h5.trans (KE_et _ (Or.inl rfl))
  have h7 : KE (me0 M i).1 (me3 M i).1 := h6.trans (KE_et _ (Or.inr (Or.inr rfl)))
  exact h7.trans (KE_et _ (Or.inr (Or.inl rfl)))
def KC (C C' : St) : Prop := ∀ k, C' 0 0 k = C 0 0 k
theorem KC.trans {A B C : St} (h1 : KC A B) (h2 : KC B C) : KC A C := fun c => (h2 c).trans (h1 c)
theorem KC_eat (C : St) {w b f : Nat → Int} {a : Int} {fld : Nat} (hf : fld = 5 ∨ fld = 7 ∨ fld = 10) : KC C (eatS C w b a fld f) := fun k => rfl
theorem KC_ea4 (C : St) (i : Nat) : KC (ea0 C i).1 (ea4 C i).1 := by
  have h4 : KC (ea0 C i).1 (ea1 C i).1 := KC_eat _ (Or.inl rfl)
  have h5 : KC (ea0 C i).1 (ea2 C i).1 := h4.trans (KC_eat _ (Or.inl rfl))
  have h6 : KC (ea0 C i).1 (ea3 C i).1 := h5.trans (KC_eat _ (Or.inr (Or.inr rfl)))
  exact h6.trans (KC_eat _ (Or.inr (Or.inl rfl)))
theorem ea0_0 {C : St} {i k : Nat} (h : k ≠ 4) : (ea0 C i).1 0 0 k = C 0 0 k := up3_k h
theorem me0_11 {M : St} {i k : Nat} (h : k ≠ 15) : (me0 M i).1 11 0 k = M 11 0 k := up3_k h
theorem mcl2_t {M : St} {i t : Nat} (h : t ≠ 11) : mcl2 M i t = (me4 (mcl1 M) i).1 t := up3_t h
theorem mcl2_11 {M : St} {i k : Nat} (h : k ≠ 17) : mcl2 M i 11 0 k = (me4 (mcl1 M) i).1 11 0 k := up3_k h
theorem mcl2_17 {M : St} {i : Nat} : mcl2 M i 11 0 17 = (me4 (mcl1 M) i).1 11 0 17 + (me4 (mcl1 M) i).2 := up3_at
theorem cl2_0 {C : St} {i k : Nat} (h : k ≠ 6) : cl2 C i 0 0 k = (ea4 (cl1 C) i).1 0 0 k := up3_k h
theorem cl2_06 {C : St} {i : Nat} : cl2 C i 0 0 6 = (ea4 (cl1 C) i).1 0 0 6 + (ea4 (cl1 C) i).2 := up3_at
theorem cl2_t {C : St} {i t : Nat} (h : t ≠ 0) : cl2 C i t = (ea4 (cl1 C) i).1 t := up3_t h
theorem mcls_u {M : St} {i t : Nat} (h : t ≠ 11) : mclS M i t = emN (emM (mcl2 M i) i 2) (nM M) t := up3_t h
theorem mcls_t {M : St} {i : Nat} (hO : mO (emM (mcl2 M i) i 2)) {t : Nat} (h11 : t ≠ 11) (h12 : t ≠ 12) (h13 : t ≠ 13) (h15 : t ≠ 15) (h17 : t ≠ 17) (h21 : t ≠ 21) : mclS M i t = mcl2 M i t := by
  rw [mcls_u h11, (emN_keep hO _).1 t h12 h13 h15 h17 h21, (emM_keep _ _ _).1 t h12 h13 h15 h17 h21]
theorem mcls_11 {M : St} {i : Nat} (hO : mO (emM (mcl2 M i) i 2)) {c : Nat} (h : c ≠ 18) : mclS M i 11 0 c = mcl2 M i 11 0 c := by
  unfold mclS
  rw [up3_k h, (emN_keep hO _).1 11 (by omega) (by omega) (by omega) (by omega) (by omega), (emM_keep _ _ _).1 11 (by omega) (by omega) (by omega) (by omega) (by omega)]
theorem mcls_18 {M : St} {i : Nat} : mclS M i 11 0 18 = -1 := up3_at
end CL3
