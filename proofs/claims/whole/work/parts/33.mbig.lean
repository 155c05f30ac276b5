/-! ===== the reference: size, shares, assessments, gains, close ===== -/
def entM (S : St) (w b : Nat → Int) (l : Nat) : St := aS (aS S 26 w l) 27 b l
theorem entM_0 (S : St) (w b : Nat → Int) : entM S w b 0 = S := by
  unfold entM
  rw [aS_0, aS_0]
theorem entM_s {S : St} {w b : Nat → Int} {l : Nat} {x y : Int} (hx : x = w l) (hy : y = b l) : up3 (up3 (entM S w b l) 26 0 l x) 27 0 l y = entM S w b (l + 1) := by
  have e : up3 (entM S w b l) 26 0 l x = aS (aS S 26 w (l + 1)) 27 b l := by
    funext t i k
    subst hx
    unfold entM up3 aS
    by_cases h : t = 26
    · subst h
      show (if 26 = 26 ∧ i = 0 ∧ k = l then w l else if 26 = 27 ∧ i = 0 ∧ k < l then b k else if 26 = 26 ∧ i = 0 ∧ k < l then w k else S 26 i k) = if 26 = 27 ∧ i = 0 ∧ k < l then b k else if 26 = 26 ∧ i = 0 ∧ k < l + 1 then w k else S 26 i k
      rcases Nat.lt_trichotomy k l with hk | hk | hk
      · simp [show ¬ k = l by omega, hk, show k < l + 1 by omega]
      · subst hk
        by_cases hi : i = 0 <;> simp [hi]
      · simp [show ¬ k = l by omega, show ¬ k < l by omega, show ¬ k < l + 1 by omega]
    · simp only [if_neg (fun q : t = 26 ∧ i = 0 ∧ k = l => h q.1), if_neg (fun q : t = 26 ∧ i = 0 ∧ k < l => h q.1), if_neg (fun q : t = 26 ∧ i = 0 ∧ k < l + 1 => h q.1)]
  rw [e, aS_s hy]
  rfl
theorem entM_26 {S : St} {w b : Nat → Int} {l k : Nat} (h : k < l) : entM S w b l 26 0 k = w k := by
  show aS S 26 w l 26 0 k = _
  exact aS_in h
theorem entM_27 {S : St} {w b : Nat → Int} {l k : Nat} (h : k < l) : entM S w b l 27 0 k = b k := aS_in h
theorem whM_ok {w b : Nat → Int} {n : Nat} : ∀ (f : Nat) (x : (Nat → Int) × Int), okM w b n x → okM w b n (whM w b n f x)
  | 0, _, h => h
  | f + 1, x, h => by
    unfold whM
    split
    · exact whM_ok f _ (gv1_ok h n (Nat.le_refl _))
    · exact h
theorem fnM_ok {w b po : Nat → Int} {n : Nat} {a : Int} (h : okV w b n a) (hn : n ≤ 10) : ∀ k, k < n → 0 ≤ fnM w b po n a k ∧ fnM w b po n a k ≤ b k := fun k hk => by
  unfold fnM
  split
  · rename_i hs
    exact (whM_ok _ _ (p0m_ok (po := po) h hn hs)).1 k hk
  · unfold zf
    rw [if_pos hk]
    have := h.1 k hk
    omega
theorem gvM_rng {w b : Nat → Int} {n : Nat} {a : Int} (h : okV w b n a) (hn : n ≤ 10) : 0 ≤ gvM w b n a ∧ gvM w b n a ≤ a := by
  have h1 := all_rng h hn n (Nat.le_refl _)
  have h2 := h.2
  unfold gvM
  omega
/-- the parts of an amount among members by these weights and bounds -/
def pM (S : St) (w b : Nat → Int) (a : Int) : Nat → Int := fnM (entM S w b (nM S) 26 0) (entM S w b (nM S) 27 0) (S 28 0) (nM S) a
def gM (S : St) (w b : Nat → Int) (a : Int) : Int := gvM (entM S w b (nM S) 26 0) (entM S w b (nM S) 27 0) (nM S) a
def ptM (S : St) (w b : Nat → Int) (a : Int) : St := wpM (entM S w b (nM S)) (pM S w b a)
def etM (S : St) (w b : Nat → Int) (a : Int) (T : Nat) (f : Nat → Int) : St := aS (ptM S w b a) T f (nM S)
theorem okV_ent {S : St} {w b : Nat → Int} {a : Int} (hw : ∀ k, k < nM S → (0 ≤ w k ∧ w k ≤ 100000000) ∧ 0 ≤ b k ∧ b k ≤ 100000000) (ha : 0 ≤ a ∧ a ≤ 100000000) : okV (entM S w b (nM S) 26 0) (entM S w b (nM S) 27 0) (nM S) a :=
  ⟨fun k hk => by rw [entM_26 hk, entM_27 hk]; exact hw k hk, ha⟩
theorem nM_le {S : St} (h : 0 ≤ S 11 0 9 ∧ S 11 0 9 ≤ 10) : nM S ≤ 10 := by unfold nM; omega
theorem nM_eq {S : St} (h : 0 ≤ S 11 0 9 ∧ S 11 0 9 ≤ 10) : ((nM S : Nat) : Int) = S 11 0 9 := by unfold nM; omega
theorem pM_ok {S : St} (hm : 0 ≤ S 11 0 9 ∧ S 11 0 9 ≤ 10) {w b : Nat → Int} {a : Int} (hw : ∀ k, k < nM S → (0 ≤ w k ∧ w k ≤ 100000000) ∧ 0 ≤ b k ∧ b k ≤ 100000000) (ha : 0 ≤ a ∧ a ≤ 100000000) : (∀ k, k < nM S → 0 ≤ pM S w b a k ∧ pM S w b a k ≤ b k) ∧ 0 ≤ gM S w b a ∧ gM S w b a ≤ a := by
  have h := okV_ent hw ha
  refine ⟨fun k hk => ?_, gvM_rng h (nM_le hm)⟩
  have h1 := fnM_ok (po := S 28 0) h (nM_le hm) k hk
  rw [entM_27 hk] at h1
  exact h1
/-- beyond the members the three arrays' places hold what they held -/
theorem mP_pt {S : St} (hm : 0 ≤ S 11 0 9 ∧ S 11 0 9 ≤ 10) (hP : mP S) {w b : Nat → Int} {a : Int} (hw : ∀ k, k < nM S → (0 ≤ w k ∧ w k ≤ 100000000) ∧ 0 ≤ b k ∧ b k ≤ 100000000) (ha : 0 ≤ a ∧ a ≤ 100000000) (hx : ∀ k, nM S ≤ k → pM S w b a k = S 28 0 k) : mP (ptM S w b a) := fun k hk => by
  have h := hP k hk
  have e26 : ptM S w b a 26 0 k = if k < nM S then w k else S 26 0 k := by
    show aS S 26 w (nM S) 26 0 k = _
    unfold aS
    by_cases q : k < nM S
    · rw [if_pos ⟨rfl, rfl, q⟩, if_pos q]
    · rw [if_neg (fun w => q w.2.2), if_neg q]
  have e27 : ptM S w b a 27 0 k = if k < nM S then b k else S 27 0 k := by
    show aS (aS S 26 w (nM S)) 27 b (nM S) 27 0 k = _
    unfold aS
    by_cases q : k < nM S
    · rw [if_pos ⟨rfl, rfl, q⟩, if_pos q]
    · rw [if_neg (fun w => q w.2.2), if_neg q]
      show (if 27 = 26 ∧ _ ∧ _ then _ else S 27 0 k) = _
      rw [if_neg (by omega)]
  have e28 : ptM S w b a 28 0 k = pM S w b a k := by
    show wpM _ _ 28 0 k = _
    rw [wpM_28]
  rw [e26, e27, e28]
  by_cases q : k < nM S
  · have h1 := hw k q
    have h2 := (pM_ok hm hw ha).1 k q
    rw [if_pos q, if_pos q]
    omega
  · rw [if_neg q, if_neg q, hx k (by omega)]
    exact h
theorem gvN_out {w b : Nat → Int} {c : Int} {p : Nat → Int} {l : Int} : ∀ (m k : Nat), m ≤ k → (gvN w b c p l m).1 k = p k := fun m k h => gvN_hi w b c p l m k h
theorem whM_out {w b : Nat → Int} {n : Nat} : ∀ (f : Nat) (x : (Nat → Int) × Int) (k : Nat), n ≤ k → (whM w b n f x).1 k = x.1 k
  | 0, _, _, _ => rfl
  | f + 1, x, k, h => by
    unfold whM
    split
    · rw [whM_out f _ k h]
      exact gvN_hi w b 1 x.1 x.2 n k h
    · rfl
theorem fnM_out {w b po : Nat → Int} {n : Nat} {a : Int} {k : Nat} (h : n ≤ k) : fnM w b po n a k = po k := by
  unfold fnM
  split
  · rw [whM_out _ _ k h]
    show p0m w b po (gvM w b n a) n k = _
    unfold p0m
    rw [if_neg (by omega)]
  · unfold zf
    rw [if_neg (by omega)]
def mshW (S : St) (j : Int) : Nat → Int := fun k => if mact S k ∧ S 18 0 k = j then S 13 0 k else 0
def masW (S : St) : Nat → Int := fun k => if mact S k then S 25 0 k else 0
def masB (S : St) : Nat → Int := fun k => if S 17 0 k = 1 then masW S k / 2 else masW S k
def mgnW (S : St) : Nat → Int := fun k => if mact S k then S 15 0 k else 0
def msh (S : St) (a j : Int) : St × Int := (etM S (mshW S j) (mshW S j) a 13 (fun k => S 13 0 k - pM S (mshW S j) (mshW S j) a k), a - gM S (mshW S j) (mshW S j) a)
def mas (S : St) (a : Int) : St × Int := (etM S (masW S) (masB S) a 19 (fun k => S 19 0 k + pM S (masW S) (masB S) a k), a - gM S (masW S) (masB S) a)
def mgn (S : St) (a : Int) : St × Int := (etM S (mgnW S) (mgnW S) a 15 (fun k => S 15 0 k - pM S (mgnW S) (mgnW S) a k), a - gM S (mgnW S) (mgnW S) a)
theorem mshW_ok {S : St} (hm : 0 ≤ S 11 0 9 ∧ S 11 0 9 ≤ 10) (hR : mR S) (j : Int) : ∀ k, k < nM S → (0 ≤ mshW S j k ∧ mshW S j k ≤ 100000000) ∧ 0 ≤ mshW S j k ∧ mshW S j k ≤ 100000000 := fun k hk => by
  have h := (hR k (by have := nM_le hm; omega)).2.1
  unfold mshW
  split <;> omega
theorem masW_ok {S : St} (hm : 0 ≤ S 11 0 9 ∧ S 11 0 9 ≤ 10) (hR : mR S) : ∀ k, k < nM S → (0 ≤ masW S k ∧ masW S k ≤ 100000000) ∧ 0 ≤ masB S k ∧ masB S k ≤ 100000000 := fun k hk => by
  have h := (hR k (by have := nM_le hm; omega)).2.2.2.2.2.2.2
  have h2 : 0 ≤ masW S k ∧ masW S k ≤ 100000000 := by
    unfold masW
    split <;> omega
  unfold masB
  split <;> omega
theorem mgnW_ok {S : St} (hm : 0 ≤ S 11 0 9 ∧ S 11 0 9 ≤ 10) (hR : mR S) : ∀ k, k < nM S → (0 ≤ mgnW S k ∧ mgnW S k ≤ 100000000) ∧ 0 ≤ mgnW S k ∧ mgnW S k ≤ 100000000 := fun k hk => by
  have h := (hR k (by have := nM_le hm; omega)).2.2.2.1
  unfold mgnW
  split <;> omega
theorem mI_et {S : St} (hI : mI S) {w b : Nat → Int} {a : Int} (hw : ∀ k, k < nM S → (0 ≤ w k ∧ w k ≤ 100000000) ∧ 0 ≤ b k ∧ b k ≤ 100000000) (ha : 0 ≤ a ∧ a ≤ 100000000) {T : Nat} {f : Nat → Int}
    (hf : T = 13 ∧ (∀ k, k < nM S → 0 ≤ f k ∧ f k ≤ 2000000) ∨ T = 15 ∧ (∀ k, k < nM S → 0 ≤ f k ∧ f k ≤ 1000000) ∨ T = 19) : mI (etM S w b a T f) := by
  have hm := hI.1.1
  have hP := mP_pt hm hI.2.2.2.2 hw ha (fun k hk => fnM_out hk)
  have eT : ∀ t, t ≠ T → etM S w b a T f t = ptM S w b a t := fun t ht => by
    funext i k
    show (if t = T ∧ i = 0 ∧ k < nM S then f k else ptM S w b a t i k) = _
    rw [if_neg (fun q => ht q.1)]
  have eP : ∀ t, t ≠ 26 → t ≠ 27 → t ≠ 28 → ptM S w b a t = S t := fun t h6 h7 h8 => by
    funext i k
    show (if t = 28 ∧ i = 0 then pM S w b a else (fun c => entM S w b (nM S) t i c)) k = _
    rw [if_neg (fun q => h8 q.1)]
    show (if t = 27 ∧ i = 0 ∧ k < nM S then b k else if t = 26 ∧ i = 0 ∧ k < nM S then w k else S t i k) = _
    rw [if_neg (fun q => h7 q.1), if_neg (fun q => h6 q.1)]
  have hTn : T ≠ 11 ∧ T ≠ 12 ∧ T ≠ 14 ∧ T ≠ 16 ∧ T ≠ 17 ∧ T ≠ 18 ∧ T ≠ 21 ∧ T ≠ 22 ∧ T ≠ 23 ∧ T ≠ 24 ∧ T ≠ 25 ∧ T ≠ 26 ∧ T ≠ 27 ∧ T ≠ 28 := by
    rcases hf with ⟨h, _⟩ | ⟨h, _⟩ | h <;> omega
  have e : ∀ t, t ≠ T → t ≠ 26 → t ≠ 27 → t ≠ 28 → etM S w b a T f t = S t := fun t h1 h2 h3 h4 => (eT t h1).trans (eP t h2 h3 h4)
  refine ⟨?_, fun k hk => ?_, ?_, ?_, ?_⟩
  · unfold mN
    rw [e 11 (by omega) (by omega) (by omega) (by omega)]
    exact hI.1
  · have h := hI.2.1 k hk
    rw [e 12 (by omega) (by omega) (by omega) (by omega), e 14 (by omega) (by omega) (by omega) (by omega), e 16 (by omega) (by omega) (by omega) (by omega), e 17 (by omega) (by omega) (by omega) (by omega), e 18 (by omega) (by omega) (by omega) (by omega), e 25 (by omega) (by omega) (by omega) (by omega)]
    have e13 : 0 ≤ etM S w b a T f 13 0 k ∧ etM S w b a T f 13 0 k ≤ 2000000 := by
      by_cases q : T = 13
      · subst q
        show 0 ≤ (if 13 = 13 ∧ 0 = 0 ∧ k < nM S then f k else ptM S w b a 13 0 k) ∧ (if 13 = 13 ∧ 0 = 0 ∧ k < nM S then f k else ptM S w b a 13 0 k) ≤ 2000000
        by_cases q2 : k < nM S
        · rw [if_pos ⟨rfl, rfl, q2⟩]
          rcases hf with ⟨_, hf⟩ | ⟨hf, _⟩ | hf
          · exact hf k q2
          · omega
          · omega
        · rw [if_neg (fun w => q2 w.2.2), eP 13 (by omega) (by omega) (by omega)]
          exact h.2.1
      · rw [e 13 (Ne.symm q) (by omega) (by omega) (by omega)]
        exact h.2.1
    have e15 : 0 ≤ etM S w b a T f 15 0 k ∧ etM S w b a T f 15 0 k ≤ 1000000 := by
      by_cases q : T = 15
      · subst q
        show 0 ≤ (if 15 = 15 ∧ 0 = 0 ∧ k < nM S then f k else ptM S w b a 15 0 k) ∧ (if 15 = 15 ∧ 0 = 0 ∧ k < nM S then f k else ptM S w b a 15 0 k) ≤ 1000000
        by_cases q2 : k < nM S
        · rw [if_pos ⟨rfl, rfl, q2⟩]
          rcases hf with ⟨hf, _⟩ | ⟨_, hf⟩ | hf
          · omega
          · exact hf k q2
          · omega
        · rw [if_neg (fun w => q2 w.2.2), eP 15 (by omega) (by omega) (by omega)]
          exact h.2.2.2.1
      · rw [e 15 (Ne.symm q) (by omega) (by omega) (by omega)]
        exact h.2.2.2.1
    exact ⟨h.1, e13, h.2.2.1, e15, h.2.2.2.2⟩
  · unfold mO
    rw [e 21 (by omega) (by omega) (by omega) (by omega), e 22 (by omega) (by omega) (by omega) (by omega), e 23 (by omega) (by omega) (by omega) (by omega)]
    exact hI.2.2.1
  · unfold mB
    rw [e 24 (by omega) (by omega) (by omega) (by omega)]
    exact hI.2.2.2.1
  · unfold mP
    rw [eT 26 (by omega), eT 27 (by omega), eT 28 (by omega)]
    exact hP
theorem mI_msh {S : St} (hI : mI S) {a : Int} (ha : 0 ≤ a ∧ a ≤ 100000000) (j : Int) : mI (msh S a j).1 ∧ 0 ≤ (msh S a j).2 ∧ (msh S a j).2 ≤ a := by
  have hm := hI.1.1
  have hw := mshW_ok hm hI.2.1 j
  have hp := pM_ok hm hw ha
  refine ⟨mI_et hI hw ha (Or.inl ⟨rfl, fun k hk => ?_⟩), ?_⟩
  · have h1 := hp.1 k hk
    have h2 := (hI.2.1 k (by have := nM_le hm; omega)).2.1
    have h3 : mshW S j k = S 13 0 k ∨ mshW S j k = 0 := by
      unfold mshW
      split
      · exact Or.inl rfl
      · exact Or.inr rfl
    omega
  · show 0 ≤ a - gM S (mshW S j) (mshW S j) a ∧ a - gM S (mshW S j) (mshW S j) a ≤ a
    have := hp.2
    omega
theorem mI_mas {S : St} (hI : mI S) {a : Int} (ha : 0 ≤ a ∧ a ≤ 100000000) : mI (mas S a).1 ∧ 0 ≤ (mas S a).2 ∧ (mas S a).2 ≤ a := by
  have hm := hI.1.1
  have hw := masW_ok hm hI.2.1
  have hp := pM_ok hm hw ha
  refine ⟨mI_et hI hw ha (Or.inr (Or.inr rfl)), ?_⟩
  show 0 ≤ a - gM S (masW S) (masB S) a ∧ a - gM S (masW S) (masB S) a ≤ a
  have := hp.2
  omega
theorem mI_mgn {S : St} (hI : mI S) {a : Int} (ha : 0 ≤ a ∧ a ≤ 100000000) : mI (mgn S a).1 ∧ 0 ≤ (mgn S a).2 ∧ (mgn S a).2 ≤ a := by
  have hm := hI.1.1
  have hw := mgnW_ok hm hI.2.1
  have hp := pM_ok hm hw ha
  refine ⟨mI_et hI hw ha (Or.inr (Or.inl ⟨rfl, fun k hk => ?_⟩)), ?_⟩
  · have h1 := hp.1 k hk
    have h2 := (hI.2.1 k (by have := nM_le hm; omega)).2.2.2.1
    have h3 : mgnW S k = S 15 0 k ∨ mgnW S k = 0 := by
      unfold mgnW
      split
      · exact Or.inl rfl
      · exact Or.inr rfl
    omega
  · show 0 ≤ a - gM S (mgnW S) (mgnW S) a ∧ a - gM S (mgnW S) (mgnW S) a ≤ a
    have := hp.2
    omega
def ndM (f : Nat → Int) : Nat → Int × Int
  | 0 => (0, 0)
  | m + 1 => (if (ndM f m).1 < f m then f m else (ndM f m).1, if (ndM f m).1 < f m then (ndM f m).1 else if (ndM f m).2 < f m then f m else (ndM f m).2)
theorem ndM_rng {f : Nat → Int} (hf : ∀ k, k < 10 → 0 ≤ f k ∧ f k ≤ 1000000) : ∀ m, m ≤ 10 → (0 ≤ (ndM f m).1 ∧ (ndM f m).1 ≤ 1000000) ∧ 0 ≤ (ndM f m).2 ∧ (ndM f m).2 ≤ 1000000
  | 0, _ => by
    show ((0 : Int) ≤ 0 ∧ (0 : Int) ≤ 1000000) ∧ (0 : Int) ≤ 0 ∧ (0 : Int) ≤ 1000000
    omega
  | m + 1, hm => by
    have h := ndM_rng hf m (by omega)
    have h2 := hf m (by omega)
    have e : ndM f (m + 1) = (if (ndM f m).1 < f m then f m else (ndM f m).1, if (ndM f m).1 < f m then (ndM f m).1 else if (ndM f m).2 < f m then f m else (ndM f m).2) := rfl
    rw [e]
    show (0 ≤ (if (ndM f m).1 < f m then f m else (ndM f m).1) ∧ (if (ndM f m).1 < f m then f m else (ndM f m).1) ≤ 1000000) ∧ 0 ≤ (if (ndM f m).1 < f m then (ndM f m).1 else if (ndM f m).2 < f m then f m else (ndM f m).2) ∧ (if (ndM f m).1 < f m then (ndM f m).1 else if (ndM f m).2 < f m then f m else (ndM f m).2) ≤ 1000000
    omega
def mtsF (S : St) : Nat → Int := fun k => if mact S k then S 16 0 k else 0
def mneed (S : St) : Int := (ndM (mtsF S) (nM S)).1 + (ndM (mtsF S) (nM S)).2
def mszW (S : St) : Nat → Int := fun k => if mact S k then S 12 0 k else 0
def mgrw (S : St) : Nat → Int := fun k => if S 13 0 k < pM S (mszW S) (fun _ => 4000000) (mneed S) k then pM S (mszW S) (fun _ => 4000000) (mneed S) k - S 13 0 k else 0
def mszS (S : St) : St := etM S (mszW S) (fun _ => 4000000) (mneed S) 13 (fun k => S 13 0 k + mgrw S k)
theorem mtsF_ok {S : St} (hR : mR S) : ∀ k, k < 10 → 0 ≤ mtsF S k ∧ mtsF S k ≤ 1000000 := fun k hk => by
  have h := (hR k hk).2.2.2.2.1
  unfold mtsF
  split <;> omega
theorem mneed_ok {S : St} (hm : 0 ≤ S 11 0 9 ∧ S 11 0 9 ≤ 10) (hR : mR S) : 0 ≤ mneed S ∧ mneed S ≤ 2000000 := by
  have h := ndM_rng (mtsF_ok hR) (nM S) (nM_le hm)
  unfold mneed
  omega
theorem mszW_ok {S : St} (hm : 0 ≤ S 11 0 9 ∧ S 11 0 9 ≤ 10) (hR : mR S) : ∀ k, k < nM S → (0 ≤ mszW S k ∧ mszW S k ≤ 100000000) ∧ (0 : Int) ≤ 4000000 ∧ (4000000 : Int) ≤ 100000000 := fun k hk => by
  have h := (hR k (by have := nM_le hm; omega)).1
  unfold mszW
  split <;> omega
section XMBig
variable {g : Gl} {S : St} {Ret : Option AV → St → Prop} {Thr : String → St → Prop}
theorem m_partE {w b : Nat → Int} {a : Int} (hm : 0 ≤ S 11 0 9 ∧ S 11 0 9 ≤ 10) (hw : ∀ k, k < nM S → (0 ≤ w k ∧ w k ≤ 100000000) ∧ 0 ≤ b k ∧ b k ≤ 100000000) (ha : 0 ≤ a ∧ a ≤ 100000000) (h : Ret (some (vI (gM S w b a))) (ptM S w b a)) : Cn g yX4_part cX4_part 14 (some .int) 0 0 0 [vR 11 0, vL a] (entM S w b (nM S)) Ret Thr :=
  m_part rfl rfl rfl (nM_eq hm).symm (nM_le hm) (okV_ent hw ha) h
theorem m_eatShares {a j : Int} (hj : 0 ≤ j ∧ j ≤ 1) (hI : mI S) (ha : 0 ≤ a ∧ a ≤ 100000000) (h : Ret (some (vI (msh S a j).2)) (msh S a j).1) : Cn g yX4_eatShares cX4_eatShares 5 (some .int) 1 33 0 [vR 11 0, vI a, vI j] S Ret Thr := by
  refine enter (L := [some (vR 11 0), some (vI a), some (vI j), none, none]) (by decide +kernel) (Nat.le_of_ble_eq_true rfl) rfl (fun K MM => ?_)
  have M := MM.mk
  have hm := hI.1.1
  have hn := nM_le hm
  have hne := nM_eq hm
  have hw := mshW_ok hm hI.2.1 j
  refine r_iconst M dX4_eatShares_0 ?_
  refine r_istore_3 M dX4_eatShares_1 (by decide) rfl ?_
  refine k_S (S1 := entM S (mshW S j) (mshW S j) 0) ?_ (entM_0 _ _ _).symm
  refine fz (P := fun l => ∀ c4, K 0 2 [some (vR 11 0), some (vI a), some (vI j), some (vI (l : Int)), c4] [] (entM S (mshW S j) (mshW S j) l)) (m := nM S) ?_ ?_ _
  · intro c4
    refine r_iload_n M dX4_eatShares_2 rfl ?_
    refine r_aload_n M dX4_eatShares_3 rfl ?_
    refine r_getV M dX4_eatShares_4 fk_X4_68 (by decide) rfl (S 11 0 9) (by rfl) ?_
    refine r_icmp_ge M dX4_eatShares_7 (tgt := 62) rfl (by omega) (fun b7 => ?_) (fun b7 => by omega)
    refine r_aload_n M dX4_eatShares_62 rfl ?_
    refine r_iload_n M dX4_eatShares_63 rfl ?_
    refine r_i2l M dX4_eatShares_64 (by omega) ?_
    refine r_callV1 MM dX4_eatShares_65 ck_X4_103 vk_X4_part ⟨by omega, by omega, by omega⟩ ⟨by decide, by decide, rfl⟩ (by decide) (Nat.le_of_ble_eq_true rfl) (m_partE hm hw ha ?_)
    refine r_istore_3 M dX4_eatShares_68 (by decide) rfl ?_
    refine r_iconst M dX4_eatShares_69 ?_
    refine r_istore_4 M dX4_eatShares_70 (by decide) rfl ?_
    refine k_S (S1 := aS (ptM S (mshW S j) (mshW S j) a) 13 (fun k => S 13 0 k - pM S (mshW S j) (mshW S j) a k) 0) ?_ (aS_0 _ _ _).symm
    refine fz (P := fun l => K 0 72 [some (vR 11 0), some (vI a), some (vI j), some (vI (gM S (mshW S j) (mshW S j) a)), some (vI (l : Int))] [] (aS (ptM S (mshW S j) (mshW S j) a) 13 (fun k => S 13 0 k - pM S (mshW S j) (mshW S j) a k) l)) (m := nM S) ?_ ?_
    · refine r_iload M dX4_eatShares_72 rfl ?_
      refine r_aload_n M dX4_eatShares_74 rfl ?_
      refine r_getV M dX4_eatShares_75 fk_X4_68 (by decide) rfl (S 11 0 9) (by rfl) ?_
      refine r_icmp_ge M dX4_eatShares_78 (tgt := 104) rfl (by omega) (fun b78 => ?_) (fun b78 => by omega)
      refine r_iload_n M dX4_eatShares_104 rfl ?_
      refine r_iload_n M dX4_eatShares_105 rfl ?_
      refine r_isub M dX4_eatShares_106 ?_
      refine r_iret MM dX4_eatShares_107 ?_
      exact h
    · intro l hl hP
      refine r_iload M dX4_eatShares_72 rfl ?_
      refine r_aload_n M dX4_eatShares_74 rfl ?_
      refine r_getV M dX4_eatShares_75 fk_X4_68 (by decide) rfl (S 11 0 9) (by rfl) ?_
      refine r_icmp_ge M dX4_eatShares_78 (tgt := 104) rfl (by omega) (fun b78 => by omega) (fun b78 => ?_)
      refine r_aload_n M dX4_eatShares_81 rfl ?_
      refine r_getR M dX4_eatShares_82 fk_X4_13 (by decide) rfl ?_
      refine r_iload M dX4_eatShares_85 rfl ?_
      refine r_dup2 M dX4_eatShares_87 ?_
      refine r_ialdV M (_) dX4_eatShares_88 ⟨rfl, by decide⟩ (by decide) rfl (show (_ : Nat) < 10 by omega) (Nat.le_of_ble_eq_true rfl) (S 13 0 l) (by exact aS_at _ _ _ _) ?_
      refine r_aload_n M dX4_eatShares_89 rfl ?_
      refine r_getR M dX4_eatShares_90 fk_X4_62 (by decide) rfl ?_
      refine r_iload M dX4_eatShares_93 rfl ?_
      refine r_ialdV M (_) dX4_eatShares_95 ⟨rfl, by decide⟩ (by decide) rfl (show (_ : Nat) < 10 by omega) (Nat.le_of_ble_eq_true rfl) (pM S (mshW S j) (mshW S j) a l) (by rfl) ?_
      refine r_isub M dX4_eatShares_96 ?_
      refine r_iast M (_) dX4_eatShares_97 ⟨rfl, by decide⟩ (by decide) rfl (show (_ : Nat) < 10 by omega) (Nat.le_of_ble_eq_true rfl) ?_
      refine r_iinc_4 M (_) dX4_eatShares_98 rfl (by decide) rfl ?_
      refine r_goto M dX4_eatShares_101 (tgt := 72) rfl ?_
      exact k_S hP (aS_s rfl)
  · intro l hl hP c4
    have hr := hI.2.1 l (by omega)
    refine r_iload_n M dX4_eatShares_2 rfl ?_
    refine r_aload_n M dX4_eatShares_3 rfl ?_
    refine r_getV M dX4_eatShares_4 fk_X4_68 (by decide) rfl (S 11 0 9) (by rfl) ?_
    refine r_icmp_ge M dX4_eatShares_7 (tgt := 62) rfl (by omega) (fun b7 => by omega) (fun b7 => ?_)
    refine r_aload_n M dX4_eatShares_10 rfl ?_
    refine r_getR M dX4_eatShares_11 fk_X4_56 (by decide) rfl ?_
    refine r_iload_n M dX4_eatShares_14 rfl ?_
    refine r_aload_n M dX4_eatShares_15 rfl ?_
    refine r_iload_n M dX4_eatShares_16 rfl ?_
    refine r_callV1 MM dX4_eatShares_17 ck_X4_90 vk_X4_isActive ⟨by omega, by omega, by omega⟩ ⟨by decide, by decide, rfl⟩ (by decide) (Nat.le_of_ble_eq_true rfl) (m_isActive rfl (by omega) (v := S 17 0 l) rfl (by omega) (fun hq => ?_) (fun hq => ?_))
    · refine r_if_eq M dX4_eatShares_20 (tgt := 42) rfl (by omega) (fun b20 => by omega) (fun b20 => ?_)
      refine r_aload_n M dX4_eatShares_23 rfl ?_
      refine r_getR M dX4_eatShares_24 fk_X4_28 (by decide) rfl ?_
      refine r_iload_n M dX4_eatShares_27 rfl ?_
      refine r_ialdV M (_) dX4_eatShares_28 ⟨rfl, by decide⟩ (by decide) rfl (show (_ : Nat) < 10 by omega) (Nat.le_of_ble_eq_true rfl) (S 18 0 l) (by rfl) ?_
      refine r_iload_n M dX4_eatShares_29 rfl ?_
      refine r_icmp_ne M dX4_eatShares_30 (tgt := 42) rfl (by omega) (fun b30 => ?_) (fun b30 => ?_)
      · refine r_iconst M dX4_eatShares_42 ?_
        refine r_iast M (_) dX4_eatShares_43 ⟨rfl, by decide⟩ (by decide) rfl (show (_ : Nat) < 10 by omega) (Nat.le_of_ble_eq_true rfl) ?_
        refine r_aload_n M dX4_eatShares_44 rfl ?_
        refine r_getR M dX4_eatShares_45 fk_X4_59 (by decide) rfl ?_
        refine r_iload_n M dX4_eatShares_48 rfl ?_
        refine r_aload_n M dX4_eatShares_49 rfl ?_
        refine r_getR M dX4_eatShares_50 fk_X4_56 (by decide) rfl ?_
        refine r_iload_n M dX4_eatShares_53 rfl ?_
        refine r_ialdV M (_) dX4_eatShares_54 ⟨rfl, by decide⟩ (by decide) rfl (show (_ : Nat) < 10 by omega) (Nat.le_of_ble_eq_true rfl) (mshW S j l) (by unfold mshW; first | (rw [if_pos ⟨hq, by omega⟩]; simp [up3]; done) | (rw [if_neg (fun q => hq q.1)]; simp [up3]; done) | (rw [if_neg (fun q => by have := q.2; omega)]; simp [up3]; done)) ?_
        refine r_iast M (_) dX4_eatShares_55 ⟨rfl, by decide⟩ (by decide) rfl (show (_ : Nat) < 10 by omega) (Nat.le_of_ble_eq_true rfl) ?_
        refine r_iinc_3 M (_) dX4_eatShares_56 rfl (by decide) rfl ?_
        refine r_goto M dX4_eatShares_59 (tgt := 2) rfl ?_
        exact k_S (hP _) (entM_s (by unfold mshW; first | (rw [if_pos ⟨hq, by omega⟩]; done) | (rw [if_neg (fun q => hq q.1)]; done) | (rw [if_neg (fun q => by have := q.2; omega)]; done)) rfl)
      refine r_aload_n M dX4_eatShares_33 rfl ?_
      refine r_getR M dX4_eatShares_34 fk_X4_13 (by decide) rfl ?_
      refine r_iload_n M dX4_eatShares_37 rfl ?_
      refine r_ialdV M (_) dX4_eatShares_38 ⟨rfl, by decide⟩ (by decide) rfl (show (_ : Nat) < 10 by omega) (Nat.le_of_ble_eq_true rfl) (S 13 0 l) (by rfl) ?_
      refine r_goto M dX4_eatShares_39 (tgt := 43) rfl ?_
      refine r_iast M (_) dX4_eatShares_43 ⟨rfl, by decide⟩ (by decide) rfl (show (_ : Nat) < 10 by omega) (Nat.le_of_ble_eq_true rfl) ?_
      refine r_aload_n M dX4_eatShares_44 rfl ?_
      refine r_getR M dX4_eatShares_45 fk_X4_59 (by decide) rfl ?_
      refine r_iload_n M dX4_eatShares_48 rfl ?_
      refine r_aload_n M dX4_eatShares_49 rfl ?_
      refine r_getR M dX4_eatShares_50 fk_X4_56 (by decide) rfl ?_
      refine r_iload_n M dX4_eatShares_53 rfl ?_
      refine r_ialdV M (_) dX4_eatShares_54 ⟨rfl, by decide⟩ (by decide) rfl (show (_ : Nat) < 10 by omega) (Nat.le_of_ble_eq_true rfl) (mshW S j l) (by unfold mshW; first | (rw [if_pos ⟨hq, by omega⟩]; simp [up3]; done) | (rw [if_neg (fun q => hq q.1)]; simp [up3]; done) | (rw [if_neg (fun q => by have := q.2; omega)]; simp [up3]; done)) ?_
      refine r_iast M (_) dX4_eatShares_55 ⟨rfl, by decide⟩ (by decide) rfl (show (_ : Nat) < 10 by omega) (Nat.le_of_ble_eq_true rfl) ?_
      refine r_iinc_3 M (_) dX4_eatShares_56 rfl (by decide) rfl ?_
      refine r_goto M dX4_eatShares_59 (tgt := 2) rfl ?_
      exact k_S (hP _) (entM_s (by unfold mshW; first | (rw [if_pos ⟨hq, by omega⟩]; done) | (rw [if_neg (fun q => hq q.1)]; done) | (rw [if_neg (fun q => by have := q.2; omega)]; done)) rfl)
    refine r_if_eq M dX4_eatShares_20 (tgt := 42) rfl (by omega) (fun b20 => ?_) (fun b20 => by omega)
    refine r_iconst M dX4_eatShares_42 ?_
    refine r_iast M (_) dX4_eatShares_43 ⟨rfl, by decide⟩ (by decide) rfl (show (_ : Nat) < 10 by omega) (Nat.le_of_ble_eq_true rfl) ?_
    refine r_aload_n M dX4_eatShares_44 rfl ?_
    refine r_getR M dX4_eatShares_45 fk_X4_59 (by decide) rfl ?_
    refine r_iload_n M dX4_eatShares_48 rfl ?_
    refine r_aload_n M dX4_eatShares_49 rfl ?_
    refine r_getR M dX4_eatShares_50 fk_X4_56 (by decide) rfl ?_
    refine r_iload_n M dX4_eatShares_53 rfl ?_
    refine r_ialdV M (_) dX4_eatShares_54 ⟨rfl, by decide⟩ (by decide) rfl (show (_ : Nat) < 10 by omega) (Nat.le_of_ble_eq_true rfl) (mshW S j l) (by unfold mshW; first | (rw [if_pos ⟨hq, by omega⟩]; simp [up3]; done) | (rw [if_neg (fun q => hq q.1)]; simp [up3]; done) | (rw [if_neg (fun q => by have := q.2; omega)]; simp [up3]; done)) ?_
    refine r_iast M (_) dX4_eatShares_55 ⟨rfl, by decide⟩ (by decide) rfl (show (_ : Nat) < 10 by omega) (Nat.le_of_ble_eq_true rfl) ?_
    refine r_iinc_3 M (_) dX4_eatShares_56 rfl (by decide) rfl ?_
    refine r_goto M dX4_eatShares_59 (tgt := 2) rfl ?_
    exact k_S (hP _) (entM_s (by unfold mshW; first | (rw [if_pos ⟨hq, by omega⟩]; done) | (rw [if_neg (fun q => hq q.1)]; done) | (rw [if_neg (fun q => by have := q.2; omega)]; done)) rfl)
theorem m_assess {a : Int} (hI : mI S) (ha : 0 ≤ a ∧ a ≤ 100000000) (h : Ret (some (vI (mas S a).2)) (mas S a).1) : Cn g yX4_assess cX4_assess 4 (some .int) 1 33 0 [vR 11 0, vI a] S Ret Thr := by
  refine enter (L := [some (vR 11 0), some (vI a), none, none]) (by decide +kernel) (Nat.le_of_ble_eq_true rfl) rfl (fun K MM => ?_)
  have M := MM.mk
  have hm := hI.1.1
  have hn := nM_le hm
  have hne := nM_eq hm
  have hw := masW_ok hm hI.2.1
  refine r_iconst M dX4_assess_0 ?_
  refine r_istore_2 M dX4_assess_1 (by decide) rfl ?_
  refine k_S (S1 := entM S (masW S) (masB S) 0) ?_ (entM_0 _ _ _).symm
  refine fz (P := fun l => ∀ c3, K 0 2 [some (vR 11 0), some (vI a), some (vI (l : Int)), c3] [] (entM S (masW S) (masB S) l)) (m := nM S) ?_ ?_ _
  · intro c3
    refine r_iload_n M dX4_assess_2 rfl ?_
    refine r_aload_n M dX4_assess_3 rfl ?_
    refine r_getV M dX4_assess_4 fk_X4_68 (by decide) rfl (S 11 0 9) (by rfl) ?_
    refine r_icmp_ge M dX4_assess_7 (tgt := 73) rfl (by omega) (fun b7 => ?_) (fun b7 => by omega)
    refine r_aload_n M dX4_assess_73 rfl ?_
    refine r_iload_n M dX4_assess_74 rfl ?_
    refine r_i2l M dX4_assess_75 (by omega) ?_
    refine r_callV1 MM dX4_assess_76 ck_X4_103 vk_X4_part ⟨by omega, by omega, by omega⟩ ⟨by decide, by decide, rfl⟩ (by decide) (Nat.le_of_ble_eq_true rfl) (m_partE hm hw ha ?_)
    refine r_istore_2 M dX4_assess_79 (by decide) rfl ?_
    refine r_iconst M dX4_assess_80 ?_
    refine r_istore_3 M dX4_assess_81 (by decide) rfl ?_
    refine k_S (S1 := aS (ptM S (masW S) (masB S) a) 19 (fun k => S 19 0 k + pM S (masW S) (masB S) a k) 0) ?_ (aS_0 _ _ _).symm
    refine fz (P := fun l => K 0 82 [some (vR 11 0), some (vI a), some (vI (gM S (masW S) (masB S) a)), some (vI (l : Int))] [] (aS (ptM S (masW S) (masB S) a) 19 (fun k => S 19 0 k + pM S (masW S) (masB S) a k) l)) (m := nM S) ?_ ?_
    · refine r_iload_n M dX4_assess_82 rfl ?_
      refine r_aload_n M dX4_assess_83 rfl ?_
      refine r_getV M dX4_assess_84 fk_X4_68 (by decide) rfl (S 11 0 9) (by rfl) ?_
      refine r_icmp_ge M dX4_assess_87 (tgt := 111) rfl (by omega) (fun b87 => ?_) (fun b87 => by omega)
      refine r_iload_n M dX4_assess_111 rfl ?_
      refine r_iload_n M dX4_assess_112 rfl ?_
      refine r_isub M dX4_assess_113 ?_
      refine r_iret MM dX4_assess_114 ?_
      exact h
    · intro l hl hP
      refine r_iload_n M dX4_assess_82 rfl ?_
      refine r_aload_n M dX4_assess_83 rfl ?_
      refine r_getV M dX4_assess_84 fk_X4_68 (by decide) rfl (S 11 0 9) (by rfl) ?_
      refine r_icmp_ge M dX4_assess_87 (tgt := 111) rfl (by omega) (fun b87 => by omega) (fun b87 => ?_)
      refine r_aload_n M dX4_assess_90 rfl ?_
      refine r_getR M dX4_assess_91 fk_X4_31 (by decide) rfl ?_
      refine r_iload_n M dX4_assess_94 rfl ?_
      refine r_dup2 M dX4_assess_95 ?_
      refine r_ialdV M (_) dX4_assess_96 ⟨rfl, by decide⟩ (by decide) rfl (show (_ : Nat) < 10 by omega) (Nat.le_of_ble_eq_true rfl) (S 19 0 l) (by exact aS_at _ _ _ _) ?_
      refine r_aload_n M dX4_assess_97 rfl ?_
      refine r_getR M dX4_assess_98 fk_X4_62 (by decide) rfl ?_
      refine r_iload_n M dX4_assess_101 rfl ?_
      refine r_ialdV M (_) dX4_assess_102 ⟨rfl, by decide⟩ (by decide) rfl (show (_ : Nat) < 10 by omega) (Nat.le_of_ble_eq_true rfl) (pM S (masW S) (masB S) a l) (by rfl) ?_
      refine r_iadd M dX4_assess_103 ?_
      refine r_iast M (_) dX4_assess_104 ⟨rfl, by decide⟩ (by decide) rfl (show (_ : Nat) < 10 by omega) (Nat.le_of_ble_eq_true rfl) ?_
      refine r_iinc_3 M (_) dX4_assess_105 rfl (by decide) rfl ?_
      refine r_goto M dX4_assess_108 (tgt := 82) rfl ?_
      exact k_S hP (aS_s rfl)
  · intro l hl hP c3
    have hr := hI.2.1 l (by omega)
    have hwl := hw l hl
    refine r_iload_n M dX4_assess_2 rfl ?_
    refine r_aload_n M dX4_assess_3 rfl ?_
    refine r_getV M dX4_assess_4 fk_X4_68 (by decide) rfl (S 11 0 9) (by rfl) ?_
    refine r_icmp_ge M dX4_assess_7 (tgt := 73) rfl (by omega) (fun b7 => by omega) (fun b7 => ?_)
    refine r_aload_n M dX4_assess_10 rfl ?_
    refine r_getR M dX4_assess_11 fk_X4_56 (by decide) rfl ?_
    refine r_iload_n M dX4_assess_14 rfl ?_
    refine r_aload_n M dX4_assess_15 rfl ?_
    refine r_iload_n M dX4_assess_16 rfl ?_
    refine r_callV1 MM dX4_assess_17 ck_X4_90 vk_X4_isActive ⟨by omega, by omega, by omega⟩ ⟨by decide, by decide, rfl⟩ (by decide) (Nat.le_of_ble_eq_true rfl) (m_isActive rfl (by omega) (v := S 17 0 l) rfl (by omega) (fun hq => ?_) (fun hq => ?_))
    · refine r_if_eq M dX4_assess_20 (tgt := 32) rfl (by omega) (fun b20 => by omega) (fun b20 => ?_)
      refine r_aload_n M dX4_assess_23 rfl ?_
      refine r_getR M dX4_assess_24 fk_X4_53 (by decide) rfl ?_
      refine r_iload_n M dX4_assess_27 rfl ?_
      refine r_ialdV M (_) dX4_assess_28 ⟨rfl, by decide⟩ (by decide) rfl (show (_ : Nat) < 10 by omega) (Nat.le_of_ble_eq_true rfl) (S 25 0 l) (by rfl) ?_
      refine r_goto M dX4_assess_29 (tgt := 33) rfl ?_
      refine r_iast M (_) dX4_assess_33 ⟨rfl, by decide⟩ (by decide) rfl (show (_ : Nat) < 10 by omega) (Nat.le_of_ble_eq_true rfl) ?_
      refine r_aload_n M dX4_assess_34 rfl ?_
      refine r_getR M dX4_assess_35 fk_X4_59 (by decide) rfl ?_
      refine r_iload_n M dX4_assess_38 rfl ?_
      refine r_aload_n M dX4_assess_39 rfl ?_
      refine r_getR M dX4_assess_40 fk_X4_25 (by decide) rfl ?_
      refine r_iload_n M dX4_assess_43 rfl ?_
      refine r_ialdV M (_) dX4_assess_44 ⟨rfl, by decide⟩ (by decide) rfl (show (_ : Nat) < 10 by omega) (Nat.le_of_ble_eq_true rfl) (S 17 0 l) (by rfl) ?_
      refine r_iconst M dX4_assess_45 ?_
      refine r_icmp_ne M dX4_assess_46 (tgt := 60) rfl (by omega) (fun b46 => ?_) (fun b46 => ?_)
      · refine r_aload_n M dX4_assess_60 rfl ?_
        refine r_getR M dX4_assess_61 fk_X4_56 (by decide) rfl ?_
        refine r_iload_n M dX4_assess_64 rfl ?_
        refine r_ialdV M (_) dX4_assess_65 ⟨rfl, by decide⟩ (by decide) rfl (show (_ : Nat) < 10 by omega) (Nat.le_of_ble_eq_true rfl) (masW S l) (by unfold masW; first | (rw [if_pos hq]; simp [up3]; done) | (rw [if_neg hq]; simp [up3]; done)) ?_
        refine r_iast M (_) dX4_assess_66 ⟨rfl, by decide⟩ (by decide) rfl (show (_ : Nat) < 10 by omega) (Nat.le_of_ble_eq_true rfl) ?_
        refine r_iinc_2 M (_) dX4_assess_67 rfl (by decide) rfl ?_
        refine r_goto M dX4_assess_70 (tgt := 2) rfl ?_
        exact k_S (hP _) (entM_s (by unfold masW; first | (rw [if_pos hq]; done) | (rw [if_neg hq]; done)) (by unfold masB; first | (rw [if_pos b46]; done) | (rw [if_neg b46]; done)))
      refine r_aload_n M dX4_assess_49 rfl ?_
      refine r_getR M dX4_assess_50 fk_X4_56 (by decide) rfl ?_
      refine r_iload_n M dX4_assess_53 rfl ?_
      refine r_ialdV M (_) dX4_assess_54 ⟨rfl, by decide⟩ (by decide) rfl (show (_ : Nat) < 10 by omega) (Nat.le_of_ble_eq_true rfl) (masW S l) (by unfold masW; first | (rw [if_pos hq]; simp [up3]; done) | (rw [if_neg hq]; simp [up3]; done)) ?_
      refine r_iconst M dX4_assess_55 ?_
      refine r_idiv M dX4_assess_56 (by omega) ?_
      refine r_goto M dX4_assess_57 (tgt := 66) rfl ?_
      refine r_iast M (_) dX4_assess_66 ⟨rfl, by decide⟩ (by decide) rfl (show (_ : Nat) < 10 by omega) (Nat.le_of_ble_eq_true rfl) ?_
      refine r_iinc_2 M (_) dX4_assess_67 rfl (by decide) rfl ?_
      refine r_goto M dX4_assess_70 (tgt := 2) rfl ?_
      exact k_S (hP _) (entM_s (by unfold masW; first | (rw [if_pos hq]; done) | (rw [if_neg hq]; done)) (by unfold masB; first | (rw [if_pos b46]; done) | (rw [if_neg b46]; done)))
    refine r_if_eq M dX4_assess_20 (tgt := 32) rfl (by omega) (fun b20 => ?_) (fun b20 => by omega)
    refine r_iconst M dX4_assess_32 ?_
    refine r_iast M (_) dX4_assess_33 ⟨rfl, by decide⟩ (by decide) rfl (show (_ : Nat) < 10 by omega) (Nat.le_of_ble_eq_true rfl) ?_
    refine r_aload_n M dX4_assess_34 rfl ?_
    refine r_getR M dX4_assess_35 fk_X4_59 (by decide) rfl ?_
    refine r_iload_n M dX4_assess_38 rfl ?_
    refine r_aload_n M dX4_assess_39 rfl ?_
    refine r_getR M dX4_assess_40 fk_X4_25 (by decide) rfl ?_
    refine r_iload_n M dX4_assess_43 rfl ?_
    refine r_ialdV M (_) dX4_assess_44 ⟨rfl, by decide⟩ (by decide) rfl (show (_ : Nat) < 10 by omega) (Nat.le_of_ble_eq_true rfl) (S 17 0 l) (by rfl) ?_
    refine r_iconst M dX4_assess_45 ?_
    refine r_icmp_ne M dX4_assess_46 (tgt := 60) rfl (by omega) (fun b46 => ?_) (fun b46 => ?_)
    · refine r_aload_n M dX4_assess_60 rfl ?_
      refine r_getR M dX4_assess_61 fk_X4_56 (by decide) rfl ?_
      refine r_iload_n M dX4_assess_64 rfl ?_
      refine r_ialdV M (_) dX4_assess_65 ⟨rfl, by decide⟩ (by decide) rfl (show (_ : Nat) < 10 by omega) (Nat.le_of_ble_eq_true rfl) (masW S l) (by unfold masW; first | (rw [if_pos hq]; simp [up3]; done) | (rw [if_neg hq]; simp [up3]; done)) ?_
      refine r_iast M (_) dX4_assess_66 ⟨rfl, by decide⟩ (by decide) rfl (show (_ : Nat) < 10 by omega) (Nat.le_of_ble_eq_true rfl) ?_
      refine r_iinc_2 M (_) dX4_assess_67 rfl (by decide) rfl ?_
      refine r_goto M dX4_assess_70 (tgt := 2) rfl ?_
      exact k_S (hP _) (entM_s (by unfold masW; first | (rw [if_pos hq]; done) | (rw [if_neg hq]; done)) (by unfold masB; first | (rw [if_pos b46]; done) | (rw [if_neg b46]; done)))
    refine r_aload_n M dX4_assess_49 rfl ?_
    refine r_getR M dX4_assess_50 fk_X4_56 (by decide) rfl ?_
    refine r_iload_n M dX4_assess_53 rfl ?_
    refine r_ialdV M (_) dX4_assess_54 ⟨rfl, by decide⟩ (by decide) rfl (show (_ : Nat) < 10 by omega) (Nat.le_of_ble_eq_true rfl) (masW S l) (by unfold masW; first | (rw [if_pos hq]; simp [up3]; done) | (rw [if_neg hq]; simp [up3]; done)) ?_
    refine r_iconst M dX4_assess_55 ?_
    refine r_idiv M dX4_assess_56 (by omega) ?_
    refine r_goto M dX4_assess_57 (tgt := 66) rfl ?_
    refine r_iast M (_) dX4_assess_66 ⟨rfl, by decide⟩ (by decide) rfl (show (_ : Nat) < 10 by omega) (Nat.le_of_ble_eq_true rfl) ?_
    refine r_iinc_2 M (_) dX4_assess_67 rfl (by decide) rfl ?_
    refine r_goto M dX4_assess_70 (tgt := 2) rfl ?_
    exact k_S (hP _) (entM_s (by unfold masW; first | (rw [if_pos hq]; done) | (rw [if_neg hq]; done)) (by unfold masB; first | (rw [if_pos b46]; done) | (rw [if_neg b46]; done)))
theorem m_cutGains {a : Int} (hI : mI S) (ha : 0 ≤ a ∧ a ≤ 100000000) (h : Ret (some (vI (mgn S a).2)) (mgn S a).1) : Cn g yX4_cutGains cX4_cutGains 4 (some .int) 1 33 0 [vR 11 0, vI a] S Ret Thr := by
  refine enter (L := [some (vR 11 0), some (vI a), none, none]) (by decide +kernel) (Nat.le_of_ble_eq_true rfl) rfl (fun K MM => ?_)
  have M := MM.mk
  have hm := hI.1.1
  have hn := nM_le hm
  have hne := nM_eq hm
  have hw := mgnW_ok hm hI.2.1
  refine r_iconst M dX4_cutGains_0 ?_
  refine r_istore_2 M dX4_cutGains_1 (by decide) rfl ?_
  refine k_S (S1 := entM S (mgnW S) (mgnW S) 0) ?_ (entM_0 _ _ _).symm
  refine fz (P := fun l => ∀ c3, K 0 2 [some (vR 11 0), some (vI a), some (vI (l : Int)), c3] [] (entM S (mgnW S) (mgnW S) l)) (m := nM S) ?_ ?_ _
  · intro c3
    refine r_iload_n M dX4_cutGains_2 rfl ?_
    refine r_aload_n M dX4_cutGains_3 rfl ?_
    refine r_getV M dX4_cutGains_4 fk_X4_68 (by decide) rfl (S 11 0 9) (by rfl) ?_
    refine r_icmp_ge M dX4_cutGains_7 (tgt := 52) rfl (by omega) (fun b7 => ?_) (fun b7 => by omega)
    refine r_aload_n M dX4_cutGains_52 rfl ?_
    refine r_iload_n M dX4_cutGains_53 rfl ?_
    refine r_i2l M dX4_cutGains_54 (by omega) ?_
    refine r_callV1 MM dX4_cutGains_55 ck_X4_103 vk_X4_part ⟨by omega, by omega, by omega⟩ ⟨by decide, by decide, rfl⟩ (by decide) (Nat.le_of_ble_eq_true rfl) (m_partE hm hw ha ?_)
    refine r_istore_2 M dX4_cutGains_58 (by decide) rfl ?_
    refine r_iconst M dX4_cutGains_59 ?_
    refine r_istore_3 M dX4_cutGains_60 (by decide) rfl ?_
    refine k_S (S1 := aS (ptM S (mgnW S) (mgnW S) a) 15 (fun k => S 15 0 k - pM S (mgnW S) (mgnW S) a k) 0) ?_ (aS_0 _ _ _).symm
    refine fz (P := fun l => K 0 61 [some (vR 11 0), some (vI a), some (vI (gM S (mgnW S) (mgnW S) a)), some (vI (l : Int))] [] (aS (ptM S (mgnW S) (mgnW S) a) 15 (fun k => S 15 0 k - pM S (mgnW S) (mgnW S) a k) l)) (m := nM S) ?_ ?_
    · refine r_iload_n M dX4_cutGains_61 rfl ?_
      refine r_aload_n M dX4_cutGains_62 rfl ?_
      refine r_getV M dX4_cutGains_63 fk_X4_68 (by decide) rfl (S 11 0 9) (by rfl) ?_
      refine r_icmp_ge M dX4_cutGains_66 (tgt := 90) rfl (by omega) (fun b66 => ?_) (fun b66 => by omega)
      refine r_iload_n M dX4_cutGains_90 rfl ?_
      refine r_iload_n M dX4_cutGains_91 rfl ?_
      refine r_isub M dX4_cutGains_92 ?_
      refine r_iret MM dX4_cutGains_93 ?_
      exact h
    · intro l hl hP
      refine r_iload_n M dX4_cutGains_61 rfl ?_
      refine r_aload_n M dX4_cutGains_62 rfl ?_
      refine r_getV M dX4_cutGains_63 fk_X4_68 (by decide) rfl (S 11 0 9) (by rfl) ?_
      refine r_icmp_ge M dX4_cutGains_66 (tgt := 90) rfl (by omega) (fun b66 => by omega) (fun b66 => ?_)
      refine r_aload_n M dX4_cutGains_69 rfl ?_
      refine r_getR M dX4_cutGains_70 fk_X4_19 (by decide) rfl ?_
      refine r_iload_n M dX4_cutGains_73 rfl ?_
      refine r_dup2 M dX4_cutGains_74 ?_
      refine r_ialdV M (_) dX4_cutGains_75 ⟨rfl, by decide⟩ (by decide) rfl (show (_ : Nat) < 10 by omega) (Nat.le_of_ble_eq_true rfl) (S 15 0 l) (by exact aS_at _ _ _ _) ?_
      refine r_aload_n M dX4_cutGains_76 rfl ?_
      refine r_getR M dX4_cutGains_77 fk_X4_62 (by decide) rfl ?_
      refine r_iload_n M dX4_cutGains_80 rfl ?_
      refine r_ialdV M (_) dX4_cutGains_81 ⟨rfl, by decide⟩ (by decide) rfl (show (_ : Nat) < 10 by omega) (Nat.le_of_ble_eq_true rfl) (pM S (mgnW S) (mgnW S) a l) (by rfl) ?_
      refine r_isub M dX4_cutGains_82 ?_
      refine r_iast M (_) dX4_cutGains_83 ⟨rfl, by decide⟩ (by decide) rfl (show (_ : Nat) < 10 by omega) (Nat.le_of_ble_eq_true rfl) ?_
      refine r_iinc_3 M (_) dX4_cutGains_84 rfl (by decide) rfl ?_
      refine r_goto M dX4_cutGains_87 (tgt := 61) rfl ?_
      exact k_S hP (aS_s rfl)
  · intro l hl hP c3
    have hr := hI.2.1 l (by omega)
    refine r_iload_n M dX4_cutGains_2 rfl ?_
    refine r_aload_n M dX4_cutGains_3 rfl ?_
    refine r_getV M dX4_cutGains_4 fk_X4_68 (by decide) rfl (S 11 0 9) (by rfl) ?_
    refine r_icmp_ge M dX4_cutGains_7 (tgt := 52) rfl (by omega) (fun b7 => by omega) (fun b7 => ?_)
    refine r_aload_n M dX4_cutGains_10 rfl ?_
    refine r_getR M dX4_cutGains_11 fk_X4_56 (by decide) rfl ?_
    refine r_iload_n M dX4_cutGains_14 rfl ?_
    refine r_aload_n M dX4_cutGains_15 rfl ?_
    refine r_iload_n M dX4_cutGains_16 rfl ?_
    refine r_callV1 MM dX4_cutGains_17 ck_X4_90 vk_X4_isActive ⟨by omega, by omega, by omega⟩ ⟨by decide, by decide, rfl⟩ (by decide) (Nat.le_of_ble_eq_true rfl) (m_isActive rfl (by omega) (v := S 17 0 l) rfl (by omega) (fun hq => ?_) (fun hq => ?_))
    · refine r_if_eq M dX4_cutGains_20 (tgt := 32) rfl (by omega) (fun b20 => by omega) (fun b20 => ?_)
      refine r_aload_n M dX4_cutGains_23 rfl ?_
      refine r_getR M dX4_cutGains_24 fk_X4_19 (by decide) rfl ?_
      refine r_iload_n M dX4_cutGains_27 rfl ?_
      refine r_ialdV M (_) dX4_cutGains_28 ⟨rfl, by decide⟩ (by decide) rfl (show (_ : Nat) < 10 by omega) (Nat.le_of_ble_eq_true rfl) (S 15 0 l) (by rfl) ?_
      refine r_goto M dX4_cutGains_29 (tgt := 33) rfl ?_
      refine r_iast M (_) dX4_cutGains_33 ⟨rfl, by decide⟩ (by decide) rfl (show (_ : Nat) < 10 by omega) (Nat.le_of_ble_eq_true rfl) ?_
      refine r_aload_n M dX4_cutGains_34 rfl ?_
      refine r_getR M dX4_cutGains_35 fk_X4_59 (by decide) rfl ?_
      refine r_iload_n M dX4_cutGains_38 rfl ?_
      refine r_aload_n M dX4_cutGains_39 rfl ?_
      refine r_getR M dX4_cutGains_40 fk_X4_56 (by decide) rfl ?_
      refine r_iload_n M dX4_cutGains_43 rfl ?_
      refine r_ialdV M (_) dX4_cutGains_44 ⟨rfl, by decide⟩ (by decide) rfl (show (_ : Nat) < 10 by omega) (Nat.le_of_ble_eq_true rfl) (mgnW S l) (by unfold mgnW; first | (rw [if_pos hq]; simp [up3]; done) | (rw [if_neg hq]; simp [up3]; done)) ?_
      refine r_iast M (_) dX4_cutGains_45 ⟨rfl, by decide⟩ (by decide) rfl (show (_ : Nat) < 10 by omega) (Nat.le_of_ble_eq_true rfl) ?_
      refine r_iinc_2 M (_) dX4_cutGains_46 rfl (by decide) rfl ?_
      refine r_goto M dX4_cutGains_49 (tgt := 2) rfl ?_
      exact k_S (hP _) (entM_s (by unfold mgnW; first | (rw [if_pos hq]; done) | (rw [if_neg hq]; done)) rfl)
    refine r_if_eq M dX4_cutGains_20 (tgt := 32) rfl (by omega) (fun b20 => ?_) (fun b20 => by omega)
    refine r_iconst M dX4_cutGains_32 ?_
    refine r_iast M (_) dX4_cutGains_33 ⟨rfl, by decide⟩ (by decide) rfl (show (_ : Nat) < 10 by omega) (Nat.le_of_ble_eq_true rfl) ?_
    refine r_aload_n M dX4_cutGains_34 rfl ?_
    refine r_getR M dX4_cutGains_35 fk_X4_59 (by decide) rfl ?_
    refine r_iload_n M dX4_cutGains_38 rfl ?_
    refine r_aload_n M dX4_cutGains_39 rfl ?_
    refine r_getR M dX4_cutGains_40 fk_X4_56 (by decide) rfl ?_
    refine r_iload_n M dX4_cutGains_43 rfl ?_
    refine r_ialdV M (_) dX4_cutGains_44 ⟨rfl, by decide⟩ (by decide) rfl (show (_ : Nat) < 10 by omega) (Nat.le_of_ble_eq_true rfl) (mgnW S l) (by unfold mgnW; first | (rw [if_pos hq]; simp [up3]; done) | (rw [if_neg hq]; simp [up3]; done)) ?_
    refine r_iast M (_) dX4_cutGains_45 ⟨rfl, by decide⟩ (by decide) rfl (show (_ : Nat) < 10 by omega) (Nat.le_of_ble_eq_true rfl) ?_
    refine r_iinc_2 M (_) dX4_cutGains_46 rfl (by decide) rfl ?_
    refine r_goto M dX4_cutGains_49 (tgt := 2) rfl ?_
    exact k_S (hP _) (entM_s (by unfold mgnW; first | (rw [if_pos hq]; done) | (rw [if_neg hq]; done)) rfl)
theorem m_size (hI : mI S) (hok : S 11 0 18 = -1 → Ret (some (vI (smN (mgrw (thr S 0)) (nM S)))) (mszS (thr S 0))) (h1 : S 11 0 18 ≠ -1 → Ret (some (vI 0)) (thr S 1)) : Cn g yX4_size cX4_size 6 (some .int) 1 33 0 [vR 11 0] S Ret Thr := by
  refine enter (L := [some (vR 11 0), none, none, none, none, none]) (by decide +kernel) (Nat.le_of_ble_eq_true rfl) rfl (fun K MM => ?_)
  have M := MM.mk
  have hN := hI.1
  unfold mN at hN
  refine r_aload_n M dX4_size_0 rfl ?_
  refine r_iconst M dX4_size_1 ?_
  refine r_putI M dX4_size_2 pk_X4_65 (by decide) ?_
  refine r_aload_n M dX4_size_5 rfl ?_
  refine r_getV M dX4_size_6 fk_X4_46 (by decide) rfl (S 11 0 18) (by rfl) ?_
  refine r_iconst M dX4_size_9 ?_
  refine r_icmp_eq M dX4_size_10 (tgt := 19) rfl (by omega) (fun b10 => ?_) (fun b10 => ?_)
  rotate_left
  · refine r_aload_n M dX4_size_13 rfl ?_
    refine r_iconst M dX4_size_14 ?_
    refine r_callV1 MM dX4_size_15 ck_X4_76 vk_X4_fails ⟨by omega, by omega, by omega⟩ ⟨by decide, by decide, rfl⟩ (by decide) (Nat.le_of_ble_eq_true rfl) (m_fails ?_)
    refine r_iret MM dX4_size_18 ?_
    exact ret_S (h1 b10) (thr_thr S 0 1)
  refine r_iconst M dX4_size_19 ?_
  refine r_istore_1 M dX4_size_20 (by decide) rfl ?_
  refine r_iconst M dX4_size_21 ?_
  refine r_istore_2 M dX4_size_22 (by decide) rfl ?_
  refine r_iconst M dX4_size_23 ?_
  refine r_istore_3 M dX4_size_24 (by decide) rfl ?_
  have hI0 : mI (thr S 0) := mI_thr hI 0
  have hok2 := hok b10
  have hz9 : nM (thr S 0) = nM S := rfl
  rw [← hz9] at hok2
  have e0 : up3 S 11 0 25 0 = thr S 0 := rfl
  rw [e0]
  clear hok h1 hI hN e0 hz9
  generalize thr S 0 = S at *
  have hm := hI0.1.1
  have hn := nM_le hm
  have hne := nM_eq hm
  have hw := mszW_ok hm hI0.2.1
  have hnd := mneed_ok hm hI0.2.1
  refine k_S (S1 := entM S (mszW S) (fun _ => 4000000) 0) ?_ (entM_0 _ _ _).symm
  refine fz (P := fun l => ∀ c4 c5, K 0 25 [some (vR 11 0), some (vI (ndM (mtsF S) l).1), some (vI (ndM (mtsF S) l).2), some (vI (l : Int)), c4, c5] [] (entM S (mszW S) (fun _ => 4000000) l)) (m := nM S) ?_ ?_ _ _
  · intro c4 c5
    have hr := ndM_rng (mtsF_ok hI0.2.1) (nM S) hn
    refine r_iload_n M dX4_size_25 rfl ?_
    refine r_aload_n M dX4_size_26 rfl ?_
    refine r_getV M dX4_size_27 fk_X4_68 (by decide) rfl (S 11 0 9) (by rfl) ?_
    refine r_icmp_ge M dX4_size_30 (tgt := 127) rfl (by omega) (fun b30 => ?_) (fun b30 => by omega)
    refine r_aload_n M dX4_size_127 rfl ?_
    refine r_iload_n M dX4_size_128 rfl ?_
    refine r_i2l M dX4_size_129 (by omega) ?_
    refine r_iload_n M dX4_size_130 rfl ?_
    refine r_i2l M dX4_size_131 (by omega) ?_
    refine r_ladd M dX4_size_132 ?_
    refine r_callV1 MM dX4_size_133 ck_X4_103 vk_X4_part ⟨by omega, by omega, by omega⟩ ⟨by decide, by decide, rfl⟩ (by decide) (Nat.le_of_ble_eq_true rfl) (m_partE hm hw (by omega) ?_)
    refine r_pop M dX4_size_136 ?_
    refine r_iconst M dX4_size_137 ?_
    refine r_istore_3 M dX4_size_138 (by decide) rfl ?_
    refine r_iconst M dX4_size_139 ?_
    refine r_istore_4 M dX4_size_140 (by decide) rfl ?_
    refine k_S (S1 := aS (ptM S (mszW S) (fun _ => 4000000) (mneed S)) 13 (fun k => S 13 0 k + mgrw S k) 0) ?_ (aS_0 _ _ _).symm
    refine fz (P := fun l => ∀ c5, K 0 142 [some (vR 11 0), some (vI (ndM (mtsF S) (nM S)).1), some (vI (ndM (mtsF S) (nM S)).2), some (vI (smN (mgrw S) l)), some (vI (l : Int)), c5] [] (aS (ptM S (mszW S) (fun _ => 4000000) (mneed S)) 13 (fun k => S 13 0 k + mgrw S k) l)) (m := nM S) ?_ ?_ _
    · intro c5
      refine r_iload M dX4_size_142 rfl ?_
      refine r_aload_n M dX4_size_144 rfl ?_
      refine r_getV M dX4_size_145 fk_X4_68 (by decide) rfl (S 11 0 9) (by rfl) ?_
      refine r_icmp_ge M dX4_size_148 (tgt := 212) rfl (by omega) (fun b148 => ?_) (fun b148 => by omega)
      refine r_iload_n M dX4_size_212 rfl ?_
      refine r_iret MM dX4_size_213 ?_
      exact hok2
    · intro l hl hP c5
      have hr := hI0.2.1 l (by omega)
      have hp := (pM_ok hm hw (by omega : 0 ≤ mneed S ∧ mneed S ≤ 100000000)).1 l hl
      refine r_iload M dX4_size_142 rfl ?_
      refine r_aload_n M dX4_size_144 rfl ?_
      refine r_getV M dX4_size_145 fk_X4_68 (by decide) rfl (S 11 0 9) (by rfl) ?_
      refine r_icmp_ge M dX4_size_148 (tgt := 212) rfl (by omega) (fun b148 => by omega) (fun b148 => ?_)
      refine r_aload_n M dX4_size_151 rfl ?_
      refine r_getR M dX4_size_152 fk_X4_62 (by decide) rfl ?_
      refine r_iload M dX4_size_155 rfl ?_
      refine r_ialdV M (_) dX4_size_157 ⟨rfl, by decide⟩ (by decide) rfl (show (_ : Nat) < 10 by omega) (Nat.le_of_ble_eq_true rfl) (pM S (mszW S) (fun _ => 4000000) (mneed S) l) (by rfl) ?_
      refine r_aload_n M dX4_size_158 rfl ?_
      refine r_getR M dX4_size_159 fk_X4_13 (by decide) rfl ?_
      refine r_iload M dX4_size_162 rfl ?_
      refine r_ialdV M (_) dX4_size_164 ⟨rfl, by decide⟩ (by decide) rfl (show (_ : Nat) < 10 by omega) (Nat.le_of_ble_eq_true rfl) (S 13 0 l) (by exact aS_at _ _ _ _) ?_
      refine r_icmp_le M dX4_size_165 (tgt := 186) rfl (by omega) (fun b165 => ?_) (fun b165 => ?_)
      · refine r_iconst M dX4_size_186 ?_
        refine r_istore_5 M dX4_size_187 (by decide) rfl ?_
        refine r_iload_n M dX4_size_189 rfl ?_
        refine r_iload M dX4_size_190 rfl ?_
        refine r_iadd M dX4_size_192 ?_
        refine r_istore_3 M dX4_size_193 (by decide) rfl ?_
        refine r_aload_n M dX4_size_194 rfl ?_
        refine r_getR M dX4_size_195 fk_X4_13 (by decide) rfl ?_
        refine r_iload M dX4_size_198 rfl ?_
        refine r_dup2 M dX4_size_200 ?_
        refine r_ialdV M (_) dX4_size_201 ⟨rfl, by decide⟩ (by decide) rfl (show (_ : Nat) < 10 by omega) (Nat.le_of_ble_eq_true rfl) (S 13 0 l) (by exact aS_at _ _ _ _) ?_
        refine r_iload M dX4_size_202 rfl ?_
        refine r_iadd M dX4_size_204 ?_
        refine r_iast M (_) dX4_size_205 ⟨rfl, by decide⟩ (by decide) rfl (show (_ : Nat) < 10 by omega) (Nat.le_of_ble_eq_true rfl) ?_
        refine r_iinc_4 M (_) dX4_size_206 rfl (by decide) rfl ?_
        refine r_goto M dX4_size_209 (tgt := 142) rfl ?_
        first | (have eg : mgrw S l = pM S (mszW S) (fun _ => 4000000) (mneed S) l - S 13 0 l := (by unfold mgrw; rw [if_pos b165]); rw [← eg]; exact k_S (hP _) (aS_s rfl)) | (have eg : mgrw S l = 0 := (by unfold mgrw; rw [if_neg (by omega)]); have h9 := hP (some (vI 0)); have es : smN (mgrw S) (l + 1) = smN (mgrw S) l + 0 := (by show _ + mgrw S l = _; rw [eg]); rw [es] at h9; exact k_S h9 (aS_s (by show _ = S 13 0 l + mgrw S l; rw [eg])))
      refine r_aload_n M dX4_size_168 rfl ?_
      refine r_getR M dX4_size_169 fk_X4_62 (by decide) rfl ?_
      refine r_iload M dX4_size_172 rfl ?_
      refine r_ialdV M (_) dX4_size_174 ⟨rfl, by decide⟩ (by decide) rfl (show (_ : Nat) < 10 by omega) (Nat.le_of_ble_eq_true rfl) (pM S (mszW S) (fun _ => 4000000) (mneed S) l) (by rfl) ?_
      refine r_aload_n M dX4_size_175 rfl ?_
      refine r_getR M dX4_size_176 fk_X4_13 (by decide) rfl ?_
      refine r_iload M dX4_size_179 rfl ?_
      refine r_ialdV M (_) dX4_size_181 ⟨rfl, by decide⟩ (by decide) rfl (show (_ : Nat) < 10 by omega) (Nat.le_of_ble_eq_true rfl) (S 13 0 l) (by exact aS_at _ _ _ _) ?_
      refine r_isub M dX4_size_182 ?_
      refine r_goto M dX4_size_183 (tgt := 187) rfl ?_
      refine r_istore_5 M dX4_size_187 (by decide) rfl ?_
      refine r_iload_n M dX4_size_189 rfl ?_
      refine r_iload M dX4_size_190 rfl ?_
      refine r_iadd M dX4_size_192 ?_
      refine r_istore_3 M dX4_size_193 (by decide) rfl ?_
      refine r_aload_n M dX4_size_194 rfl ?_
      refine r_getR M dX4_size_195 fk_X4_13 (by decide) rfl ?_
      refine r_iload M dX4_size_198 rfl ?_
      refine r_dup2 M dX4_size_200 ?_
      refine r_ialdV M (_) dX4_size_201 ⟨rfl, by decide⟩ (by decide) rfl (show (_ : Nat) < 10 by omega) (Nat.le_of_ble_eq_true rfl) (S 13 0 l) (by exact aS_at _ _ _ _) ?_
      refine r_iload M dX4_size_202 rfl ?_
      refine r_iadd M dX4_size_204 ?_
      refine r_iast M (_) dX4_size_205 ⟨rfl, by decide⟩ (by decide) rfl (show (_ : Nat) < 10 by omega) (Nat.le_of_ble_eq_true rfl) ?_
      refine r_iinc_4 M (_) dX4_size_206 rfl (by decide) rfl ?_
      refine r_goto M dX4_size_209 (tgt := 142) rfl ?_
      first | (have eg : mgrw S l = pM S (mszW S) (fun _ => 4000000) (mneed S) l - S 13 0 l := (by unfold mgrw; rw [if_pos b165]); rw [← eg]; exact k_S (hP _) (aS_s rfl)) | (have eg : mgrw S l = 0 := (by unfold mgrw; rw [if_neg (by omega)]); have h9 := hP (some (vI 0)); have es : smN (mgrw S) (l + 1) = smN (mgrw S) l + 0 := (by show _ + mgrw S l = _; rw [eg]); rw [es] at h9; exact k_S h9 (aS_s (by show _ = S 13 0 l + mgrw S l; rw [eg])))
  · intro l hl hP c4 c5
    have hr := hI0.2.1 l (by omega)
    have hnr := ndM_rng (mtsF_ok hI0.2.1) l (by omega)
    have e9 : ndM (mtsF S) (l + 1) = (if (ndM (mtsF S) l).1 < mtsF S l then mtsF S l else (ndM (mtsF S) l).1, if (ndM (mtsF S) l).1 < mtsF S l then (ndM (mtsF S) l).1 else if (ndM (mtsF S) l).2 < mtsF S l then mtsF S l else (ndM (mtsF S) l).2) := rfl
    rw [e9] at hP
    have q1 : ∀ A B : Int, A = (if (ndM (mtsF S) l).1 < mtsF S l then mtsF S l else (ndM (mtsF S) l).1) → B = (if (ndM (mtsF S) l).1 < mtsF S l then (ndM (mtsF S) l).1 else if (ndM (mtsF S) l).2 < mtsF S l then mtsF S l else (ndM (mtsF S) l).2) → ∀ c4 c5, K 0 25 [some (vR 11 0), some (vI A), some (vI B), some (vI ((l + 1 : Nat) : Int)), c4, c5] [] (entM S (mszW S) (fun _ => 4000000) (l + 1)) := by
      intro A B hA hB
      rw [hA, hB]
      exact hP
    have hts : (S 17 0 l = 0 ∨ S 17 0 l = 1) ∧ mtsF S l = S 16 0 l ∨ ¬ (S 17 0 l = 0 ∨ S 17 0 l = 1) ∧ mtsF S l = 0 := by
      unfold mtsF
      by_cases q : mact S l
      · rw [if_pos q]; exact Or.inl ⟨q, rfl⟩
      · rw [if_neg q]; exact Or.inr ⟨q, rfl⟩
    refine r_iload_n M dX4_size_25 rfl ?_
    refine r_aload_n M dX4_size_26 rfl ?_
    refine r_getV M dX4_size_27 fk_X4_68 (by decide) rfl (S 11 0 9) (by rfl) ?_
    refine r_icmp_ge M dX4_size_30 (tgt := 127) rfl (by omega) (fun b30 => by omega) (fun b30 => ?_)
    refine r_aload_n M dX4_size_33 rfl ?_
    refine r_iload_n M dX4_size_34 rfl ?_
    refine r_callV1 MM dX4_size_35 ck_X4_90 vk_X4_isActive ⟨by omega, by omega, by omega⟩ ⟨by decide, by decide, rfl⟩ (by decide) (Nat.le_of_ble_eq_true rfl) (m_isActive rfl (by omega) (v := S 17 0 l) rfl (by omega) (fun hq => ?_) (fun hq => ?_))
    · refine r_if_eq M dX4_size_38 (tgt := 50) rfl (by omega) (fun b38 => by omega) (fun b38 => ?_)
      refine r_aload_n M dX4_size_41 rfl ?_
      refine r_getR M dX4_size_42 fk_X4_22 (by decide) rfl ?_
      refine r_iload_n M dX4_size_45 rfl ?_
      refine r_ialdV M (_) dX4_size_46 ⟨rfl, by decide⟩ (by decide) rfl (show (_ : Nat) < 10 by omega) (Nat.le_of_ble_eq_true rfl) (S 16 0 l) (by rfl) ?_
      refine r_goto M dX4_size_47 (tgt := 51) rfl ?_
      refine r_istore_4 M dX4_size_51 (by decide) rfl ?_
      refine r_iload M dX4_size_53 rfl ?_
      refine r_iload_n M dX4_size_55 rfl ?_
      refine r_icmp_le M dX4_size_56 (tgt := 63) rfl (by omega) (fun b56 => ?_) (fun b56 => ?_)
      · refine r_iload M dX4_size_63 rfl ?_
        refine r_iload_n M dX4_size_65 rfl ?_
        refine r_icmp_le M dX4_size_66 (tgt := 74) rfl (by omega) (fun b66 => ?_) (fun b66 => ?_)
        · refine r_iload_n M dX4_size_74 rfl ?_
          refine r_istore_2 M dX4_size_75 (by decide) rfl ?_
          refine r_iload M dX4_size_76 rfl ?_
          refine r_iload_n M dX4_size_78 rfl ?_
          refine r_icmp_le M dX4_size_79 (tgt := 87) rfl (by omega) (fun b79 => ?_) (fun b79 => ?_)
          · refine r_iload_n M dX4_size_87 rfl ?_
            refine r_istore_1 M dX4_size_88 (by decide) rfl ?_
            refine r_aload_n M dX4_size_89 rfl ?_
            refine r_getR M dX4_size_90 fk_X4_56 (by decide) rfl ?_
            refine r_iload_n M dX4_size_93 rfl ?_
            refine r_aload_n M dX4_size_94 rfl ?_
            refine r_iload_n M dX4_size_95 rfl ?_
            refine r_callV1 MM dX4_size_96 ck_X4_90 vk_X4_isActive ⟨by omega, by omega, by omega⟩ ⟨by decide, by decide, rfl⟩ (by decide) (Nat.le_of_ble_eq_true rfl) (m_isActive rfl (by omega) (v := S 17 0 l) rfl (by omega) (fun hq2 => ?_) (fun hq2 => ?_))
            · refine r_if_eq M dX4_size_99 (tgt := 111) rfl (by omega) (fun b99 => by omega) (fun b99 => ?_)
              refine r_aload_n M dX4_size_102 rfl ?_
              refine r_getR M dX4_size_103 fk_X4_7 (by decide) rfl ?_
              refine r_iload_n M dX4_size_106 rfl ?_
              refine r_ialdV M (_) dX4_size_107 ⟨rfl, by decide⟩ (by decide) rfl (show (_ : Nat) < 10 by omega) (Nat.le_of_ble_eq_true rfl) (S 12 0 l) (by rfl) ?_
              refine r_goto M dX4_size_108 (tgt := 112) rfl ?_
              refine r_iast M (_) dX4_size_112 ⟨rfl, by decide⟩ (by decide) rfl (show (_ : Nat) < 10 by omega) (Nat.le_of_ble_eq_true rfl) ?_
              refine r_aload_n M dX4_size_113 rfl ?_
              refine r_getR M dX4_size_114 fk_X4_59 (by decide) rfl ?_
              refine r_iload_n M dX4_size_117 rfl ?_
              refine r_ldc M dX4_size_118 kc_X4_102 (z := 4000000) rfl ?_
              refine r_iast M (_) dX4_size_120 ⟨rfl, by decide⟩ (by decide) rfl (show (_ : Nat) < 10 by omega) (Nat.le_of_ble_eq_true rfl) ?_
              refine r_iinc_3 M (((l + 1 : Nat) : Int)) dX4_size_121 (by omega) (by decide) rfl ?_
              refine r_goto M dX4_size_124 (tgt := 25) rfl ?_
              first | (exfalso; omega) | exact k_S (q1 _ _ (by omega) (by omega) _ _) (entM_s (by unfold mszW; first | (rw [if_pos hq2]; done) | (rw [if_neg hq2]; done)) rfl)
            refine r_if_eq M dX4_size_99 (tgt := 111) rfl (by omega) (fun b99 => ?_) (fun b99 => by omega)
            refine r_iconst M dX4_size_111 ?_
            refine r_iast M (_) dX4_size_112 ⟨rfl, by decide⟩ (by decide) rfl (show (_ : Nat) < 10 by omega) (Nat.le_of_ble_eq_true rfl) ?_
            refine r_aload_n M dX4_size_113 rfl ?_
            refine r_getR M dX4_size_114 fk_X4_59 (by decide) rfl ?_
            refine r_iload_n M dX4_size_117 rfl ?_
            refine r_ldc M dX4_size_118 kc_X4_102 (z := 4000000) rfl ?_
            refine r_iast M (_) dX4_size_120 ⟨rfl, by decide⟩ (by decide) rfl (show (_ : Nat) < 10 by omega) (Nat.le_of_ble_eq_true rfl) ?_
            refine r_iinc_3 M (((l + 1 : Nat) : Int)) dX4_size_121 (by omega) (by decide) rfl ?_
            refine r_goto M dX4_size_124 (tgt := 25) rfl ?_
            first | (exfalso; omega) | exact k_S (q1 _ _ (by omega) (by omega) _ _) (entM_s (by unfold mszW; first | (rw [if_pos hq2]; done) | (rw [if_neg hq2]; done)) rfl)
          refine r_iload M dX4_size_82 rfl ?_
          refine r_goto M dX4_size_84 (tgt := 88) rfl ?_
          refine r_istore_1 M dX4_size_88 (by decide) rfl ?_
          refine r_aload_n M dX4_size_89 rfl ?_
          refine r_getR M dX4_size_90 fk_X4_56 (by decide) rfl ?_
          refine r_iload_n M dX4_size_93 rfl ?_
          refine r_aload_n M dX4_size_94 rfl ?_
          refine r_iload_n M dX4_size_95 rfl ?_
          refine r_callV1 MM dX4_size_96 ck_X4_90 vk_X4_isActive ⟨by omega, by omega, by omega⟩ ⟨by decide, by decide, rfl⟩ (by decide) (Nat.le_of_ble_eq_true rfl) (m_isActive rfl (by omega) (v := S 17 0 l) rfl (by omega) (fun hq2 => ?_) (fun hq2 => ?_))
          · refine r_if_eq M dX4_size_99 (tgt := 111) rfl (by omega) (fun b99 => by omega) (fun b99 => ?_)
            refine r_aload_n M dX4_size_102 rfl ?_
            refine r_getR M dX4_size_103 fk_X4_7 (by decide) rfl ?_
            refine r_iload_n M dX4_size_106 rfl ?_
            refine r_ialdV M (_) dX4_size_107 ⟨rfl, by decide⟩ (by decide) rfl (show (_ : Nat) < 10 by omega) (Nat.le_of_ble_eq_true rfl) (S 12 0 l) (by rfl) ?_
            refine r_goto M dX4_size_108 (tgt := 112) rfl ?_
            refine r_iast M (_) dX4_size_112 ⟨rfl, by decide⟩ (by decide) rfl (show (_ : Nat) < 10 by omega) (Nat.le_of_ble_eq_true rfl) ?_
            refine r_aload_n M dX4_size_113 rfl ?_
            refine r_getR M dX4_size_114 fk_X4_59 (by decide) rfl ?_
            refine r_iload_n M dX4_size_117 rfl ?_
            refine r_ldc M dX4_size_118 kc_X4_102 (z := 4000000) rfl ?_
            refine r_iast M (_) dX4_size_120 ⟨rfl, by decide⟩ (by decide) rfl (show (_ : Nat) < 10 by omega) (Nat.le_of_ble_eq_true rfl) ?_
            refine r_iinc_3 M (((l + 1 : Nat) : Int)) dX4_size_121 (by omega) (by decide) rfl ?_
            refine r_goto M dX4_size_124 (tgt := 25) rfl ?_
            first | (exfalso; omega) | exact k_S (q1 _ _ (by omega) (by omega) _ _) (entM_s (by unfold mszW; first | (rw [if_pos hq2]; done) | (rw [if_neg hq2]; done)) rfl)
          refine r_if_eq M dX4_size_99 (tgt := 111) rfl (by omega) (fun b99 => ?_) (fun b99 => by omega)
          refine r_iconst M dX4_size_111 ?_
          refine r_iast M (_) dX4_size_112 ⟨rfl, by decide⟩ (by decide) rfl (show (_ : Nat) < 10 by omega) (Nat.le_of_ble_eq_true rfl) ?_
          refine r_aload_n M dX4_size_113 rfl ?_
          refine r_getR M dX4_size_114 fk_X4_59 (by decide) rfl ?_
          refine r_iload_n M dX4_size_117 rfl ?_
          refine r_ldc M dX4_size_118 kc_X4_102 (z := 4000000) rfl ?_
          refine r_iast M (_) dX4_size_120 ⟨rfl, by decide⟩ (by decide) rfl (show (_ : Nat) < 10 by omega) (Nat.le_of_ble_eq_true rfl) ?_
          refine r_iinc_3 M (((l + 1 : Nat) : Int)) dX4_size_121 (by omega) (by decide) rfl ?_
          refine r_goto M dX4_size_124 (tgt := 25) rfl ?_
          first | (exfalso; omega) | exact k_S (q1 _ _ (by omega) (by omega) _ _) (entM_s (by unfold mszW; first | (rw [if_pos hq2]; done) | (rw [if_neg hq2]; done)) rfl)
        refine r_iload M dX4_size_69 rfl ?_
        refine r_goto M dX4_size_71 (tgt := 75) rfl ?_
        refine r_istore_2 M dX4_size_75 (by decide) rfl ?_
        refine r_iload M dX4_size_76 rfl ?_
        refine r_iload_n M dX4_size_78 rfl ?_
        refine r_icmp_le M dX4_size_79 (tgt := 87) rfl (by omega) (fun b79 => ?_) (fun b79 => ?_)
        · refine r_iload_n M dX4_size_87 rfl ?_
          refine r_istore_1 M dX4_size_88 (by decide) rfl ?_
          refine r_aload_n M dX4_size_89 rfl ?_
          refine r_getR M dX4_size_90 fk_X4_56 (by decide) rfl ?_
          refine r_iload_n M dX4_size_93 rfl ?_
          refine r_aload_n M dX4_size_94 rfl ?_
          refine r_iload_n M dX4_size_95 rfl ?_
          refine r_callV1 MM dX4_size_96 ck_X4_90 vk_X4_isActive ⟨by omega, by omega, by omega⟩ ⟨by decide, by decide, rfl⟩ (by decide) (Nat.le_of_ble_eq_true rfl) (m_isActive rfl (by omega) (v := S 17 0 l) rfl (by omega) (fun hq2 => ?_) (fun hq2 => ?_))
          · refine r_if_eq M dX4_size_99 (tgt := 111) rfl (by omega) (fun b99 => by omega) (fun b99 => ?_)
            refine r_aload_n M dX4_size_102 rfl ?_
            refine r_getR M dX4_size_103 fk_X4_7 (by decide) rfl ?_
            refine r_iload_n M dX4_size_106 rfl ?_
            refine r_ialdV M (_) dX4_size_107 ⟨rfl, by decide⟩ (by decide) rfl (show (_ : Nat) < 10 by omega) (Nat.le_of_ble_eq_true rfl) (S 12 0 l) (by rfl) ?_
            refine r_goto M dX4_size_108 (tgt := 112) rfl ?_
            refine r_iast M (_) dX4_size_112 ⟨rfl, by decide⟩ (by decide) rfl (show (_ : Nat) < 10 by omega) (Nat.le_of_ble_eq_true rfl) ?_
            refine r_aload_n M dX4_size_113 rfl ?_
            refine r_getR M dX4_size_114 fk_X4_59 (by decide) rfl ?_
            refine r_iload_n M dX4_size_117 rfl ?_
            refine r_ldc M dX4_size_118 kc_X4_102 (z := 4000000) rfl ?_
            refine r_iast M (_) dX4_size_120 ⟨rfl, by decide⟩ (by decide) rfl (show (_ : Nat) < 10 by omega) (Nat.le_of_ble_eq_true rfl) ?_
            refine r_iinc_3 M (((l + 1 : Nat) : Int)) dX4_size_121 (by omega) (by decide) rfl ?_
            refine r_goto M dX4_size_124 (tgt := 25) rfl ?_
            first | (exfalso; omega) | exact k_S (q1 _ _ (by omega) (by omega) _ _) (entM_s (by unfold mszW; first | (rw [if_pos hq2]; done) | (rw [if_neg hq2]; done)) rfl)
          refine r_if_eq M dX4_size_99 (tgt := 111) rfl (by omega) (fun b99 => ?_) (fun b99 => by omega)
          refine r_iconst M dX4_size_111 ?_
          refine r_iast M (_) dX4_size_112 ⟨rfl, by decide⟩ (by decide) rfl (show (_ : Nat) < 10 by omega) (Nat.le_of_ble_eq_true rfl) ?_
          refine r_aload_n M dX4_size_113 rfl ?_
          refine r_getR M dX4_size_114 fk_X4_59 (by decide) rfl ?_
          refine r_iload_n M dX4_size_117 rfl ?_
          refine r_ldc M dX4_size_118 kc_X4_102 (z := 4000000) rfl ?_
          refine r_iast M (_) dX4_size_120 ⟨rfl, by decide⟩ (by decide) rfl (show (_ : Nat) < 10 by omega) (Nat.le_of_ble_eq_true rfl) ?_
          refine r_iinc_3 M (((l + 1 : Nat) : Int)) dX4_size_121 (by omega) (by decide) rfl ?_
          refine r_goto M dX4_size_124 (tgt := 25) rfl ?_
          first | (exfalso; omega) | exact k_S (q1 _ _ (by omega) (by omega) _ _) (entM_s (by unfold mszW; first | (rw [if_pos hq2]; done) | (rw [if_neg hq2]; done)) rfl)
        refine r_iload M dX4_size_82 rfl ?_
        refine r_goto M dX4_size_84 (tgt := 88) rfl ?_
        refine r_istore_1 M dX4_size_88 (by decide) rfl ?_
        refine r_aload_n M dX4_size_89 rfl ?_
        refine r_getR M dX4_size_90 fk_X4_56 (by decide) rfl ?_
        refine r_iload_n M dX4_size_93 rfl ?_
        refine r_aload_n M dX4_size_94 rfl ?_
        refine r_iload_n M dX4_size_95 rfl ?_
        refine r_callV1 MM dX4_size_96 ck_X4_90 vk_X4_isActive ⟨by omega, by omega, by omega⟩ ⟨by decide, by decide, rfl⟩ (by decide) (Nat.le_of_ble_eq_true rfl) (m_isActive rfl (by omega) (v := S 17 0 l) rfl (by omega) (fun hq2 => ?_) (fun hq2 => ?_))
        · refine r_if_eq M dX4_size_99 (tgt := 111) rfl (by omega) (fun b99 => by omega) (fun b99 => ?_)
          refine r_aload_n M dX4_size_102 rfl ?_
          refine r_getR M dX4_size_103 fk_X4_7 (by decide) rfl ?_
          refine r_iload_n M dX4_size_106 rfl ?_
          refine r_ialdV M (_) dX4_size_107 ⟨rfl, by decide⟩ (by decide) rfl (show (_ : Nat) < 10 by omega) (Nat.le_of_ble_eq_true rfl) (S 12 0 l) (by rfl) ?_
          refine r_goto M dX4_size_108 (tgt := 112) rfl ?_
          refine r_iast M (_) dX4_size_112 ⟨rfl, by decide⟩ (by decide) rfl (show (_ : Nat) < 10 by omega) (Nat.le_of_ble_eq_true rfl) ?_
          refine r_aload_n M dX4_size_113 rfl ?_
          refine r_getR M dX4_size_114 fk_X4_59 (by decide) rfl ?_
          refine r_iload_n M dX4_size_117 rfl ?_
          refine r_ldc M dX4_size_118 kc_X4_102 (z := 4000000) rfl ?_
          refine r_iast M (_) dX4_size_120 ⟨rfl, by decide⟩ (by decide) rfl (show (_ : Nat) < 10 by omega) (Nat.le_of_ble_eq_true rfl) ?_
          refine r_iinc_3 M (((l + 1 : Nat) : Int)) dX4_size_121 (by omega) (by decide) rfl ?_
          refine r_goto M dX4_size_124 (tgt := 25) rfl ?_
          first | (exfalso; omega) | exact k_S (q1 _ _ (by omega) (by omega) _ _) (entM_s (by unfold mszW; first | (rw [if_pos hq2]; done) | (rw [if_neg hq2]; done)) rfl)
        refine r_if_eq M dX4_size_99 (tgt := 111) rfl (by omega) (fun b99 => ?_) (fun b99 => by omega)
        refine r_iconst M dX4_size_111 ?_
        refine r_iast M (_) dX4_size_112 ⟨rfl, by decide⟩ (by decide) rfl (show (_ : Nat) < 10 by omega) (Nat.le_of_ble_eq_true rfl) ?_
        refine r_aload_n M dX4_size_113 rfl ?_
        refine r_getR M dX4_size_114 fk_X4_59 (by decide) rfl ?_
        refine r_iload_n M dX4_size_117 rfl ?_
        refine r_ldc M dX4_size_118 kc_X4_102 (z := 4000000) rfl ?_
        refine r_iast M (_) dX4_size_120 ⟨rfl, by decide⟩ (by decide) rfl (show (_ : Nat) < 10 by omega) (Nat.le_of_ble_eq_true rfl) ?_
        refine r_iinc_3 M (((l + 1 : Nat) : Int)) dX4_size_121 (by omega) (by decide) rfl ?_
        refine r_goto M dX4_size_124 (tgt := 25) rfl ?_
        first | (exfalso; omega) | exact k_S (q1 _ _ (by omega) (by omega) _ _) (entM_s (by unfold mszW; first | (rw [if_pos hq2]; done) | (rw [if_neg hq2]; done)) rfl)
      refine r_iload_n M dX4_size_59 rfl ?_
      refine r_goto M dX4_size_60 (tgt := 75) rfl ?_
      refine r_istore_2 M dX4_size_75 (by decide) rfl ?_
      refine r_iload M dX4_size_76 rfl ?_
      refine r_iload_n M dX4_size_78 rfl ?_
      refine r_icmp_le M dX4_size_79 (tgt := 87) rfl (by omega) (fun b79 => ?_) (fun b79 => ?_)
      · refine r_iload_n M dX4_size_87 rfl ?_
        refine r_istore_1 M dX4_size_88 (by decide) rfl ?_
        refine r_aload_n M dX4_size_89 rfl ?_
        refine r_getR M dX4_size_90 fk_X4_56 (by decide) rfl ?_
        refine r_iload_n M dX4_size_93 rfl ?_
        refine r_aload_n M dX4_size_94 rfl ?_
        refine r_iload_n M dX4_size_95 rfl ?_
        refine r_callV1 MM dX4_size_96 ck_X4_90 vk_X4_isActive ⟨by omega, by omega, by omega⟩ ⟨by decide, by decide, rfl⟩ (by decide) (Nat.le_of_ble_eq_true rfl) (m_isActive rfl (by omega) (v := S 17 0 l) rfl (by omega) (fun hq2 => ?_) (fun hq2 => ?_))
        · refine r_if_eq M dX4_size_99 (tgt := 111) rfl (by omega) (fun b99 => by omega) (fun b99 => ?_)
          refine r_aload_n M dX4_size_102 rfl ?_
          refine r_getR M dX4_size_103 fk_X4_7 (by decide) rfl ?_
          refine r_iload_n M dX4_size_106 rfl ?_
          refine r_ialdV M (_) dX4_size_107 ⟨rfl, by decide⟩ (by decide) rfl (show (_ : Nat) < 10 by omega) (Nat.le_of_ble_eq_true rfl) (S 12 0 l) (by rfl) ?_
          refine r_goto M dX4_size_108 (tgt := 112) rfl ?_
          refine r_iast M (_) dX4_size_112 ⟨rfl, by decide⟩ (by decide) rfl (show (_ : Nat) < 10 by omega) (Nat.le_of_ble_eq_true rfl) ?_
          refine r_aload_n M dX4_size_113 rfl ?_
          refine r_getR M dX4_size_114 fk_X4_59 (by decide) rfl ?_
          refine r_iload_n M dX4_size_117 rfl ?_
          refine r_ldc M dX4_size_118 kc_X4_102 (z := 4000000) rfl ?_
          refine r_iast M (_) dX4_size_120 ⟨rfl, by decide⟩ (by decide) rfl (show (_ : Nat) < 10 by omega) (Nat.le_of_ble_eq_true rfl) ?_
          refine r_iinc_3 M (((l + 1 : Nat) : Int)) dX4_size_121 (by omega) (by decide) rfl ?_
          refine r_goto M dX4_size_124 (tgt := 25) rfl ?_
          first | (exfalso; omega) | exact k_S (q1 _ _ (by omega) (by omega) _ _) (entM_s (by unfold mszW; first | (rw [if_pos hq2]; done) | (rw [if_neg hq2]; done)) rfl)
        refine r_if_eq M dX4_size_99 (tgt := 111) rfl (by omega) (fun b99 => ?_) (fun b99 => by omega)
        refine r_iconst M dX4_size_111 ?_
        refine r_iast M (_) dX4_size_112 ⟨rfl, by decide⟩ (by decide) rfl (show (_ : Nat) < 10 by omega) (Nat.le_of_ble_eq_true rfl) ?_
        refine r_aload_n M dX4_size_113 rfl ?_
        refine r_getR M dX4_size_114 fk_X4_59 (by decide) rfl ?_
        refine r_iload_n M dX4_size_117 rfl ?_
        refine r_ldc M dX4_size_118 kc_X4_102 (z := 4000000) rfl ?_
        refine r_iast M (_) dX4_size_120 ⟨rfl, by decide⟩ (by decide) rfl (show (_ : Nat) < 10 by omega) (Nat.le_of_ble_eq_true rfl) ?_
        refine r_iinc_3 M (((l + 1 : Nat) : Int)) dX4_size_121 (by omega) (by decide) rfl ?_
        refine r_goto M dX4_size_124 (tgt := 25) rfl ?_
        first | (exfalso; omega) | exact k_S (q1 _ _ (by omega) (by omega) _ _) (entM_s (by unfold mszW; first | (rw [if_pos hq2]; done) | (rw [if_neg hq2]; done)) rfl)
      refine r_iload M dX4_size_82 rfl ?_
      refine r_goto M dX4_size_84 (tgt := 88) rfl ?_
      refine r_istore_1 M dX4_size_88 (by decide) rfl ?_
      refine r_aload_n M dX4_size_89 rfl ?_
      refine r_getR M dX4_size_90 fk_X4_56 (by decide) rfl ?_
      refine r_iload_n M dX4_size_93 rfl ?_
      refine r_aload_n M dX4_size_94 rfl ?_
      refine r_iload_n M dX4_size_95 rfl ?_
      refine r_callV1 MM dX4_size_96 ck_X4_90 vk_X4_isActive ⟨by omega, by omega, by omega⟩ ⟨by decide, by decide, rfl⟩ (by decide) (Nat.le_of_ble_eq_true rfl) (m_isActive rfl (by omega) (v := S 17 0 l) rfl (by omega) (fun hq2 => ?_) (fun hq2 => ?_))
      · refine r_if_eq M dX4_size_99 (tgt := 111) rfl (by omega) (fun b99 => by omega) (fun b99 => ?_)
        refine r_aload_n M dX4_size_102 rfl ?_
        refine r_getR M dX4_size_103 fk_X4_7 (by decide) rfl ?_
        refine r_iload_n M dX4_size_106 rfl ?_
        refine r_ialdV M (_) dX4_size_107 ⟨rfl, by decide⟩ (by decide) rfl (show (_ : Nat) < 10 by omega) (Nat.le_of_ble_eq_true rfl) (S 12 0 l) (by rfl) ?_
        refine r_goto M dX4_size_108 (tgt := 112) rfl ?_
        refine r_iast M (_) dX4_size_112 ⟨rfl, by decide⟩ (by decide) rfl (show (_ : Nat) < 10 by omega) (Nat.le_of_ble_eq_true rfl) ?_
        refine r_aload_n M dX4_size_113 rfl ?_
        refine r_getR M dX4_size_114 fk_X4_59 (by decide) rfl ?_
        refine r_iload_n M dX4_size_117 rfl ?_
        refine r_ldc M dX4_size_118 kc_X4_102 (z := 4000000) rfl ?_
        refine r_iast M (_) dX4_size_120 ⟨rfl, by decide⟩ (by decide) rfl (show (_ : Nat) < 10 by omega) (Nat.le_of_ble_eq_true rfl) ?_
        refine r_iinc_3 M (((l + 1 : Nat) : Int)) dX4_size_121 (by omega) (by decide) rfl ?_
        refine r_goto M dX4_size_124 (tgt := 25) rfl ?_
        first | (exfalso; omega) | exact k_S (q1 _ _ (by omega) (by omega) _ _) (entM_s (by unfold mszW; first | (rw [if_pos hq2]; done) | (rw [if_neg hq2]; done)) rfl)
      refine r_if_eq M dX4_size_99 (tgt := 111) rfl (by omega) (fun b99 => ?_) (fun b99 => by omega)
      refine r_iconst M dX4_size_111 ?_
      refine r_iast M (_) dX4_size_112 ⟨rfl, by decide⟩ (by decide) rfl (show (_ : Nat) < 10 by omega) (Nat.le_of_ble_eq_true rfl) ?_
      refine r_aload_n M dX4_size_113 rfl ?_
      refine r_getR M dX4_size_114 fk_X4_59 (by decide) rfl ?_
      refine r_iload_n M dX4_size_117 rfl ?_
      refine r_ldc M dX4_size_118 kc_X4_102 (z := 4000000) rfl ?_
      refine r_iast M (_) dX4_size_120 ⟨rfl, by decide⟩ (by decide) rfl (show (_ : Nat) < 10 by omega) (Nat.le_of_ble_eq_true rfl) ?_
      refine r_iinc_3 M (((l + 1 : Nat) : Int)) dX4_size_121 (by omega) (by decide) rfl ?_
      refine r_goto M dX4_size_124 (tgt := 25) rfl ?_
      first | (exfalso; omega) | exact k_S (q1 _ _ (by omega) (by omega) _ _) (entM_s (by unfold mszW; first | (rw [if_pos hq2]; done) | (rw [if_neg hq2]; done)) rfl)
    refine r_if_eq M dX4_size_38 (tgt := 50) rfl (by omega) (fun b38 => ?_) (fun b38 => by omega)
    refine r_iconst M dX4_size_50 ?_
    refine r_istore_4 M dX4_size_51 (by decide) rfl ?_
    refine r_iload M dX4_size_53 rfl ?_
    refine r_iload_n M dX4_size_55 rfl ?_
    refine r_icmp_le M dX4_size_56 (tgt := 63) rfl (by omega) (fun b56 => ?_) (fun b56 => ?_)
    · refine r_iload M dX4_size_63 rfl ?_
      refine r_iload_n M dX4_size_65 rfl ?_
      refine r_icmp_le M dX4_size_66 (tgt := 74) rfl (by omega) (fun b66 => ?_) (fun b66 => ?_)
      · refine r_iload_n M dX4_size_74 rfl ?_
        refine r_istore_2 M dX4_size_75 (by decide) rfl ?_
        refine r_iload M dX4_size_76 rfl ?_
        refine r_iload_n M dX4_size_78 rfl ?_
        refine r_icmp_le M dX4_size_79 (tgt := 87) rfl (by omega) (fun b79 => ?_) (fun b79 => ?_)
        · refine r_iload_n M dX4_size_87 rfl ?_
          refine r_istore_1 M dX4_size_88 (by decide) rfl ?_
          refine r_aload_n M dX4_size_89 rfl ?_
          refine r_getR M dX4_size_90 fk_X4_56 (by decide) rfl ?_
          refine r_iload_n M dX4_size_93 rfl ?_
          refine r_aload_n M dX4_size_94 rfl ?_
          refine r_iload_n M dX4_size_95 rfl ?_
          refine r_callV1 MM dX4_size_96 ck_X4_90 vk_X4_isActive ⟨by omega, by omega, by omega⟩ ⟨by decide, by decide, rfl⟩ (by decide) (Nat.le_of_ble_eq_true rfl) (m_isActive rfl (by omega) (v := S 17 0 l) rfl (by omega) (fun hq2 => ?_) (fun hq2 => ?_))
          · refine r_if_eq M dX4_size_99 (tgt := 111) rfl (by omega) (fun b99 => by omega) (fun b99 => ?_)
            refine r_aload_n M dX4_size_102 rfl ?_
            refine r_getR M dX4_size_103 fk_X4_7 (by decide) rfl ?_
            refine r_iload_n M dX4_size_106 rfl ?_
            refine r_ialdV M (_) dX4_size_107 ⟨rfl, by decide⟩ (by decide) rfl (show (_ : Nat) < 10 by omega) (Nat.le_of_ble_eq_true rfl) (S 12 0 l) (by rfl) ?_
            refine r_goto M dX4_size_108 (tgt := 112) rfl ?_
            refine r_iast M (_) dX4_size_112 ⟨rfl, by decide⟩ (by decide) rfl (show (_ : Nat) < 10 by omega) (Nat.le_of_ble_eq_true rfl) ?_
            refine r_aload_n M dX4_size_113 rfl ?_
            refine r_getR M dX4_size_114 fk_X4_59 (by decide) rfl ?_
            refine r_iload_n M dX4_size_117 rfl ?_
            refine r_ldc M dX4_size_118 kc_X4_102 (z := 4000000) rfl ?_
            refine r_iast M (_) dX4_size_120 ⟨rfl, by decide⟩ (by decide) rfl (show (_ : Nat) < 10 by omega) (Nat.le_of_ble_eq_true rfl) ?_
            refine r_iinc_3 M (((l + 1 : Nat) : Int)) dX4_size_121 (by omega) (by decide) rfl ?_
            refine r_goto M dX4_size_124 (tgt := 25) rfl ?_
            first | (exfalso; omega) | exact k_S (q1 _ _ (by omega) (by omega) _ _) (entM_s (by unfold mszW; first | (rw [if_pos hq2]; done) | (rw [if_neg hq2]; done)) rfl)
          refine r_if_eq M dX4_size_99 (tgt := 111) rfl (by omega) (fun b99 => ?_) (fun b99 => by omega)
          refine r_iconst M dX4_size_111 ?_
          refine r_iast M (_) dX4_size_112 ⟨rfl, by decide⟩ (by decide) rfl (show (_ : Nat) < 10 by omega) (Nat.le_of_ble_eq_true rfl) ?_
          refine r_aload_n M dX4_size_113 rfl ?_
          refine r_getR M dX4_size_114 fk_X4_59 (by decide) rfl ?_
          refine r_iload_n M dX4_size_117 rfl ?_
          refine r_ldc M dX4_size_118 kc_X4_102 (z := 4000000) rfl ?_
          refine r_iast M (_) dX4_size_120 ⟨rfl, by decide⟩ (by decide) rfl (show (_ : Nat) < 10 by omega) (Nat.le_of_ble_eq_true rfl) ?_
          refine r_iinc_3 M (((l + 1 : Nat) : Int)) dX4_size_121 (by omega) (by decide) rfl ?_
          refine r_goto M dX4_size_124 (tgt := 25) rfl ?_
          first | (exfalso; omega) | exact k_S (q1 _ _ (by omega) (by omega) _ _) (entM_s (by unfold mszW; first | (rw [if_pos hq2]; done) | (rw [if_neg hq2]; done)) rfl)
        refine r_iload M dX4_size_82 rfl ?_
        refine r_goto M dX4_size_84 (tgt := 88) rfl ?_
        refine r_istore_1 M dX4_size_88 (by decide) rfl ?_
        refine r_aload_n M dX4_size_89 rfl ?_
        refine r_getR M dX4_size_90 fk_X4_56 (by decide) rfl ?_
        refine r_iload_n M dX4_size_93 rfl ?_
        refine r_aload_n M dX4_size_94 rfl ?_
        refine r_iload_n M dX4_size_95 rfl ?_
        refine r_callV1 MM dX4_size_96 ck_X4_90 vk_X4_isActive ⟨by omega, by omega, by omega⟩ ⟨by decide, by decide, rfl⟩ (by decide) (Nat.le_of_ble_eq_true rfl) (m_isActive rfl (by omega) (v := S 17 0 l) rfl (by omega) (fun hq2 => ?_) (fun hq2 => ?_))
        · refine r_if_eq M dX4_size_99 (tgt := 111) rfl (by omega) (fun b99 => by omega) (fun b99 => ?_)
          refine r_aload_n M dX4_size_102 rfl ?_
          refine r_getR M dX4_size_103 fk_X4_7 (by decide) rfl ?_
          refine r_iload_n M dX4_size_106 rfl ?_
          refine r_ialdV M (_) dX4_size_107 ⟨rfl, by decide⟩ (by decide) rfl (show (_ : Nat) < 10 by omega) (Nat.le_of_ble_eq_true rfl) (S 12 0 l) (by rfl) ?_
          refine r_goto M dX4_size_108 (tgt := 112) rfl ?_
          refine r_iast M (_) dX4_size_112 ⟨rfl, by decide⟩ (by decide) rfl (show (_ : Nat) < 10 by omega) (Nat.le_of_ble_eq_true rfl) ?_
          refine r_aload_n M dX4_size_113 rfl ?_
          refine r_getR M dX4_size_114 fk_X4_59 (by decide) rfl ?_
          refine r_iload_n M dX4_size_117 rfl ?_
          refine r_ldc M dX4_size_118 kc_X4_102 (z := 4000000) rfl ?_
          refine r_iast M (_) dX4_size_120 ⟨rfl, by decide⟩ (by decide) rfl (show (_ : Nat) < 10 by omega) (Nat.le_of_ble_eq_true rfl) ?_
          refine r_iinc_3 M (((l + 1 : Nat) : Int)) dX4_size_121 (by omega) (by decide) rfl ?_
          refine r_goto M dX4_size_124 (tgt := 25) rfl ?_
          first | (exfalso; omega) | exact k_S (q1 _ _ (by omega) (by omega) _ _) (entM_s (by unfold mszW; first | (rw [if_pos hq2]; done) | (rw [if_neg hq2]; done)) rfl)
        refine r_if_eq M dX4_size_99 (tgt := 111) rfl (by omega) (fun b99 => ?_) (fun b99 => by omega)
        refine r_iconst M dX4_size_111 ?_
        refine r_iast M (_) dX4_size_112 ⟨rfl, by decide⟩ (by decide) rfl (show (_ : Nat) < 10 by omega) (Nat.le_of_ble_eq_true rfl) ?_
        refine r_aload_n M dX4_size_113 rfl ?_
        refine r_getR M dX4_size_114 fk_X4_59 (by decide) rfl ?_
        refine r_iload_n M dX4_size_117 rfl ?_
        refine r_ldc M dX4_size_118 kc_X4_102 (z := 4000000) rfl ?_
        refine r_iast M (_) dX4_size_120 ⟨rfl, by decide⟩ (by decide) rfl (show (_ : Nat) < 10 by omega) (Nat.le_of_ble_eq_true rfl) ?_
        refine r_iinc_3 M (((l + 1 : Nat) : Int)) dX4_size_121 (by omega) (by decide) rfl ?_
        refine r_goto M dX4_size_124 (tgt := 25) rfl ?_
        first | (exfalso; omega) | exact k_S (q1 _ _ (by omega) (by omega) _ _) (entM_s (by unfold mszW; first | (rw [if_pos hq2]; done) | (rw [if_neg hq2]; done)) rfl)
      refine r_iload M dX4_size_69 rfl ?_
      refine r_goto M dX4_size_71 (tgt := 75) rfl ?_
      refine r_istore_2 M dX4_size_75 (by decide) rfl ?_
      refine r_iload M dX4_size_76 rfl ?_
      refine r_iload_n M dX4_size_78 rfl ?_
      refine r_icmp_le M dX4_size_79 (tgt := 87) rfl (by omega) (fun b79 => ?_) (fun b79 => ?_)
      · refine r_iload_n M dX4_size_87 rfl ?_
        refine r_istore_1 M dX4_size_88 (by decide) rfl ?_
        refine r_aload_n M dX4_size_89 rfl ?_
        refine r_getR M dX4_size_90 fk_X4_56 (by decide) rfl ?_
        refine r_iload_n M dX4_size_93 rfl ?_
        refine r_aload_n M dX4_size_94 rfl ?_
        refine r_iload_n M dX4_size_95 rfl ?_
        refine r_callV1 MM dX4_size_96 ck_X4_90 vk_X4_isActive ⟨by omega, by omega, by omega⟩ ⟨by decide, by decide, rfl⟩ (by decide) (Nat.le_of_ble_eq_true rfl) (m_isActive rfl (by omega) (v := S 17 0 l) rfl (by omega) (fun hq2 => ?_) (fun hq2 => ?_))
        · refine r_if_eq M dX4_size_99 (tgt := 111) rfl (by omega) (fun b99 => by omega) (fun b99 => ?_)
          refine r_aload_n M dX4_size_102 rfl ?_
          refine r_getR M dX4_size_103 fk_X4_7 (by decide) rfl ?_
          refine r_iload_n M dX4_size_106 rfl ?_
          refine r_ialdV M (_) dX4_size_107 ⟨rfl, by decide⟩ (by decide) rfl (show (_ : Nat) < 10 by omega) (Nat.le_of_ble_eq_true rfl) (S 12 0 l) (by rfl) ?_
          refine r_goto M dX4_size_108 (tgt := 112) rfl ?_
          refine r_iast M (_) dX4_size_112 ⟨rfl, by decide⟩ (by decide) rfl (show (_ : Nat) < 10 by omega) (Nat.le_of_ble_eq_true rfl) ?_
          refine r_aload_n M dX4_size_113 rfl ?_
          refine r_getR M dX4_size_114 fk_X4_59 (by decide) rfl ?_
          refine r_iload_n M dX4_size_117 rfl ?_
          refine r_ldc M dX4_size_118 kc_X4_102 (z := 4000000) rfl ?_
          refine r_iast M (_) dX4_size_120 ⟨rfl, by decide⟩ (by decide) rfl (show (_ : Nat) < 10 by omega) (Nat.le_of_ble_eq_true rfl) ?_
          refine r_iinc_3 M (((l + 1 : Nat) : Int)) dX4_size_121 (by omega) (by decide) rfl ?_
          refine r_goto M dX4_size_124 (tgt := 25) rfl ?_
          first | (exfalso; omega) | exact k_S (q1 _ _ (by omega) (by omega) _ _) (entM_s (by unfold mszW; first | (rw [if_pos hq2]; done) | (rw [if_neg hq2]; done)) rfl)
        refine r_if_eq M dX4_size_99 (tgt := 111) rfl (by omega) (fun b99 => ?_) (fun b99 => by omega)
        refine r_iconst M dX4_size_111 ?_
        refine r_iast M (_) dX4_size_112 ⟨rfl, by decide⟩ (by decide) rfl (show (_ : Nat) < 10 by omega) (Nat.le_of_ble_eq_true rfl) ?_
        refine r_aload_n M dX4_size_113 rfl ?_
        refine r_getR M dX4_size_114 fk_X4_59 (by decide) rfl ?_
        refine r_iload_n M dX4_size_117 rfl ?_
        refine r_ldc M dX4_size_118 kc_X4_102 (z := 4000000) rfl ?_
        refine r_iast M (_) dX4_size_120 ⟨rfl, by decide⟩ (by decide) rfl (show (_ : Nat) < 10 by omega) (Nat.le_of_ble_eq_true rfl) ?_
        refine r_iinc_3 M (((l + 1 : Nat) : Int)) dX4_size_121 (by omega) (by decide) rfl ?_
        refine r_goto M dX4_size_124 (tgt := 25) rfl ?_
        first | (exfalso; omega) | exact k_S (q1 _ _ (by omega) (by omega) _ _) (entM_s (by unfold mszW; first | (rw [if_pos hq2]; done) | (rw [if_neg hq2]; done)) rfl)
      refine r_iload M dX4_size_82 rfl ?_
      refine r_goto M dX4_size_84 (tgt := 88) rfl ?_
      refine r_istore_1 M dX4_size_88 (by decide) rfl ?_
      refine r_aload_n M dX4_size_89 rfl ?_
      refine r_getR M dX4_size_90 fk_X4_56 (by decide) rfl ?_
      refine r_iload_n M dX4_size_93 rfl ?_
      refine r_aload_n M dX4_size_94 rfl ?_
      refine r_iload_n M dX4_size_95 rfl ?_
      refine r_callV1 MM dX4_size_96 ck_X4_90 vk_X4_isActive ⟨by omega, by omega, by omega⟩ ⟨by decide, by decide, rfl⟩ (by decide) (Nat.le_of_ble_eq_true rfl) (m_isActive rfl (by omega) (v := S 17 0 l) rfl (by omega) (fun hq2 => ?_) (fun hq2 => ?_))
      · refine r_if_eq M dX4_size_99 (tgt := 111) rfl (by omega) (fun b99 => by omega) (fun b99 => ?_)
        refine r_aload_n M dX4_size_102 rfl ?_
        refine r_getR M dX4_size_103 fk_X4_7 (by decide) rfl ?_
        refine r_iload_n M dX4_size_106 rfl ?_
        refine r_ialdV M (_) dX4_size_107 ⟨rfl, by decide⟩ (by decide) rfl (show (_ : Nat) < 10 by omega) (Nat.le_of_ble_eq_true rfl) (S 12 0 l) (by rfl) ?_
        refine r_goto M dX4_size_108 (tgt := 112) rfl ?_
        refine r_iast M (_) dX4_size_112 ⟨rfl, by decide⟩ (by decide) rfl (show (_ : Nat) < 10 by omega) (Nat.le_of_ble_eq_true rfl) ?_
        refine r_aload_n M dX4_size_113 rfl ?_
        refine r_getR M dX4_size_114 fk_X4_59 (by decide) rfl ?_
        refine r_iload_n M dX4_size_117 rfl ?_
        refine r_ldc M dX4_size_118 kc_X4_102 (z := 4000000) rfl ?_
        refine r_iast M (_) dX4_size_120 ⟨rfl, by decide⟩ (by decide) rfl (show (_ : Nat) < 10 by omega) (Nat.le_of_ble_eq_true rfl) ?_
        refine r_iinc_3 M (((l + 1 : Nat) : Int)) dX4_size_121 (by omega) (by decide) rfl ?_
        refine r_goto M dX4_size_124 (tgt := 25) rfl ?_
        first | (exfalso; omega) | exact k_S (q1 _ _ (by omega) (by omega) _ _) (entM_s (by unfold mszW; first | (rw [if_pos hq2]; done) | (rw [if_neg hq2]; done)) rfl)
      refine r_if_eq M dX4_size_99 (tgt := 111) rfl (by omega) (fun b99 => ?_) (fun b99 => by omega)
      refine r_iconst M dX4_size_111 ?_
      refine r_iast M (_) dX4_size_112 ⟨rfl, by decide⟩ (by decide) rfl (show (_ : Nat) < 10 by omega) (Nat.le_of_ble_eq_true rfl) ?_
      refine r_aload_n M dX4_size_113 rfl ?_
      refine r_getR M dX4_size_114 fk_X4_59 (by decide) rfl ?_
      refine r_iload_n M dX4_size_117 rfl ?_
      refine r_ldc M dX4_size_118 kc_X4_102 (z := 4000000) rfl ?_
      refine r_iast M (_) dX4_size_120 ⟨rfl, by decide⟩ (by decide) rfl (show (_ : Nat) < 10 by omega) (Nat.le_of_ble_eq_true rfl) ?_
      refine r_iinc_3 M (((l + 1 : Nat) : Int)) dX4_size_121 (by omega) (by decide) rfl ?_
      refine r_goto M dX4_size_124 (tgt := 25) rfl ?_
      first | (exfalso; omega) | exact k_S (q1 _ _ (by omega) (by omega) _ _) (entM_s (by unfold mszW; first | (rw [if_pos hq2]; done) | (rw [if_neg hq2]; done)) rfl)
    refine r_iload_n M dX4_size_59 rfl ?_
    refine r_goto M dX4_size_60 (tgt := 75) rfl ?_
    refine r_istore_2 M dX4_size_75 (by decide) rfl ?_
    refine r_iload M dX4_size_76 rfl ?_
    refine r_iload_n M dX4_size_78 rfl ?_
    refine r_icmp_le M dX4_size_79 (tgt := 87) rfl (by omega) (fun b79 => ?_) (fun b79 => ?_)
    · refine r_iload_n M dX4_size_87 rfl ?_
      refine r_istore_1 M dX4_size_88 (by decide) rfl ?_
      refine r_aload_n M dX4_size_89 rfl ?_
      refine r_getR M dX4_size_90 fk_X4_56 (by decide) rfl ?_
      refine r_iload_n M dX4_size_93 rfl ?_
      refine r_aload_n M dX4_size_94 rfl ?_
      refine r_iload_n M dX4_size_95 rfl ?_
      refine r_callV1 MM dX4_size_96 ck_X4_90 vk_X4_isActive ⟨by omega, by omega, by omega⟩ ⟨by decide, by decide, rfl⟩ (by decide) (Nat.le_of_ble_eq_true rfl) (m_isActive rfl (by omega) (v := S 17 0 l) rfl (by omega) (fun hq2 => ?_) (fun hq2 => ?_))
      · refine r_if_eq M dX4_size_99 (tgt := 111) rfl (by omega) (fun b99 => by omega) (fun b99 => ?_)
        refine r_aload_n M dX4_size_102 rfl ?_
        refine r_getR M dX4_size_103 fk_X4_7 (by decide) rfl ?_
        refine r_iload_n M dX4_size_106 rfl ?_
        refine r_ialdV M (_) dX4_size_107 ⟨rfl, by decide⟩ (by decide) rfl (show (_ : Nat) < 10 by omega) (Nat.le_of_ble_eq_true rfl) (S 12 0 l) (by rfl) ?_
        refine r_goto M dX4_size_108 (tgt := 112) rfl ?_
        refine r_iast M (_) dX4_size_112 ⟨rfl, by decide⟩ (by decide) rfl (show (_ : Nat) < 10 by omega) (Nat.le_of_ble_eq_true rfl) ?_
        refine r_aload_n M dX4_size_113 rfl ?_
        refine r_getR M dX4_size_114 fk_X4_59 (by decide) rfl ?_
        refine r_iload_n M dX4_size_117 rfl ?_
        refine r_ldc M dX4_size_118 kc_X4_102 (z := 4000000) rfl ?_
        refine r_iast M (_) dX4_size_120 ⟨rfl, by decide⟩ (by decide) rfl (show (_ : Nat) < 10 by omega) (Nat.le_of_ble_eq_true rfl) ?_
        refine r_iinc_3 M (((l + 1 : Nat) : Int)) dX4_size_121 (by omega) (by decide) rfl ?_
        refine r_goto M dX4_size_124 (tgt := 25) rfl ?_
        first | (exfalso; omega) | exact k_S (q1 _ _ (by omega) (by omega) _ _) (entM_s (by unfold mszW; first | (rw [if_pos hq2]; done) | (rw [if_neg hq2]; done)) rfl)
      refine r_if_eq M dX4_size_99 (tgt := 111) rfl (by omega) (fun b99 => ?_) (fun b99 => by omega)
      refine r_iconst M dX4_size_111 ?_
      refine r_iast M (_) dX4_size_112 ⟨rfl, by decide⟩ (by decide) rfl (show (_ : Nat) < 10 by omega) (Nat.le_of_ble_eq_true rfl) ?_
      refine r_aload_n M dX4_size_113 rfl ?_
      refine r_getR M dX4_size_114 fk_X4_59 (by decide) rfl ?_
      refine r_iload_n M dX4_size_117 rfl ?_
      refine r_ldc M dX4_size_118 kc_X4_102 (z := 4000000) rfl ?_
      refine r_iast M (_) dX4_size_120 ⟨rfl, by decide⟩ (by decide) rfl (show (_ : Nat) < 10 by omega) (Nat.le_of_ble_eq_true rfl) ?_
      refine r_iinc_3 M (((l + 1 : Nat) : Int)) dX4_size_121 (by omega) (by decide) rfl ?_
      refine r_goto M dX4_size_124 (tgt := 25) rfl ?_
      first | (exfalso; omega) | exact k_S (q1 _ _ (by omega) (by omega) _ _) (entM_s (by unfold mszW; first | (rw [if_pos hq2]; done) | (rw [if_neg hq2]; done)) rfl)
    refine r_iload M dX4_size_82 rfl ?_
    refine r_goto M dX4_size_84 (tgt := 88) rfl ?_
    refine r_istore_1 M dX4_size_88 (by decide) rfl ?_
    refine r_aload_n M dX4_size_89 rfl ?_
    refine r_getR M dX4_size_90 fk_X4_56 (by decide) rfl ?_
    refine r_iload_n M dX4_size_93 rfl ?_
    refine r_aload_n M dX4_size_94 rfl ?_
    refine r_iload_n M dX4_size_95 rfl ?_
    refine r_callV1 MM dX4_size_96 ck_X4_90 vk_X4_isActive ⟨by omega, by omega, by omega⟩ ⟨by decide, by decide, rfl⟩ (by decide) (Nat.le_of_ble_eq_true rfl) (m_isActive rfl (by omega) (v := S 17 0 l) rfl (by omega) (fun hq2 => ?_) (fun hq2 => ?_))
    · refine r_if_eq M dX4_size_99 (tgt := 111) rfl (by omega) (fun b99 => by omega) (fun b99 => ?_)
      refine r_aload_n M dX4_size_102 rfl ?_
      refine r_getR M dX4_size_103 fk_X4_7 (by decide) rfl ?_
      refine r_iload_n M dX4_size_106 rfl ?_
      refine r_ialdV M (_) dX4_size_107 ⟨rfl, by decide⟩ (by decide) rfl (show (_ : Nat) < 10 by omega) (Nat.le_of_ble_eq_true rfl) (S 12 0 l) (by rfl) ?_
      refine r_goto M dX4_size_108 (tgt := 112) rfl ?_
      refine r_iast M (_) dX4_size_112 ⟨rfl, by decide⟩ (by decide) rfl (show (_ : Nat) < 10 by omega) (Nat.le_of_ble_eq_true rfl) ?_
      refine r_aload_n M dX4_size_113 rfl ?_
      refine r_getR M dX4_size_114 fk_X4_59 (by decide) rfl ?_
      refine r_iload_n M dX4_size_117 rfl ?_
      refine r_ldc M dX4_size_118 kc_X4_102 (z := 4000000) rfl ?_
      refine r_iast M (_) dX4_size_120 ⟨rfl, by decide⟩ (by decide) rfl (show (_ : Nat) < 10 by omega) (Nat.le_of_ble_eq_true rfl) ?_
      refine r_iinc_3 M (((l + 1 : Nat) : Int)) dX4_size_121 (by omega) (by decide) rfl ?_
      refine r_goto M dX4_size_124 (tgt := 25) rfl ?_
      first | (exfalso; omega) | exact k_S (q1 _ _ (by omega) (by omega) _ _) (entM_s (by unfold mszW; first | (rw [if_pos hq2]; done) | (rw [if_neg hq2]; done)) rfl)
    refine r_if_eq M dX4_size_99 (tgt := 111) rfl (by omega) (fun b99 => ?_) (fun b99 => by omega)
    refine r_iconst M dX4_size_111 ?_
    refine r_iast M (_) dX4_size_112 ⟨rfl, by decide⟩ (by decide) rfl (show (_ : Nat) < 10 by omega) (Nat.le_of_ble_eq_true rfl) ?_
    refine r_aload_n M dX4_size_113 rfl ?_
    refine r_getR M dX4_size_114 fk_X4_59 (by decide) rfl ?_
    refine r_iload_n M dX4_size_117 rfl ?_
    refine r_ldc M dX4_size_118 kc_X4_102 (z := 4000000) rfl ?_
    refine r_iast M (_) dX4_size_120 ⟨rfl, by decide⟩ (by decide) rfl (show (_ : Nat) < 10 by omega) (Nat.le_of_ble_eq_true rfl) ?_
    refine r_iinc_3 M (((l + 1 : Nat) : Int)) dX4_size_121 (by omega) (by decide) rfl ?_
    refine r_goto M dX4_size_124 (tgt := 25) rfl ?_
    first | (exfalso; omega) | exact k_S (q1 _ _ (by omega) (by omega) _ _) (entM_s (by unfold mszW; first | (rw [if_pos hq2]; done) | (rw [if_neg hq2]; done)) rfl)
end XMBig
