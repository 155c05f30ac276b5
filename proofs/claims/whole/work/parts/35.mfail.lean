/-! ===== the reference: fail ===== -/
def ocN (S : St) (z : Int) : Nat → Nat
  | 0 => 0
  | k + 1 => if S 21 0 k = z then ocN S z k + 1 else ocN S z k
theorem ocN_le (S : St) (z : Int) : ∀ m, ocN S z m ≤ m
  | 0 => Nat.le_refl _
  | m + 1 => by
    have h := ocN_le S z m
    unfold ocN
    split <;> omega
def mf1 (S : St) (k : Nat) : St := up3 (up3 (up3 (up3 S 21 0 k (ownN S (S 22 0 k) (nM S))) 23 0 k (S 11 0 13)) 11 0 13 (S 11 0 13 + 1)) 11 0 19 (S 11 0 19 + (if ownN S (S 22 0 k) (nM S) = -1 then S 22 0 k else 0))
def mfN (z : Int) : Nat → St → St
  | 0, S => S
  | f + 1, S => if foN S z (nC S) = -1 then S else mfN z f (mf1 S (foN S z (nC S)).toNat)
theorem mf1_keep (S : St) (k : Nat) : (∀ t, t ≠ 11 → t ≠ 21 → t ≠ 23 → mf1 S k t = S t) ∧ (∀ c, c ≠ 13 → c ≠ 19 → mf1 S k 11 0 c = S 11 0 c) ∧ (∀ c, mf1 S k 21 0 c = if c = k then ownN S (S 22 0 k) (nM S) else S 21 0 c) ∧ (∀ c, mf1 S k 23 0 c = if c = k then S 11 0 13 else S 23 0 c) ∧ mf1 S k 11 0 13 = S 11 0 13 + 1 ∧ mf1 S k 11 0 19 = S 11 0 19 + (if ownN S (S 22 0 k) (nM S) = -1 then S 22 0 k else 0) := by
  refine ⟨fun t a b c => ?_, fun c a b => ?_, fun c => ?_, fun c => ?_, ?_, ?_⟩
  · funext u v
    simp [mf1, up3, a, b, c]
  · simp [mf1, up3, a, b]
  · simp [mf1, up3]
  · simp [mf1, up3]
  · simp [mf1, up3]
  · simp [mf1, up3]
theorem ocN_mf1 {S : St} {z : Int} {k : Nat} (hk : S 21 0 k = z) (ho : ownN S (S 22 0 k) (nM S) ≠ z) : ∀ m, ocN (mf1 S k) z m + (if k < m then 1 else 0) = ocN S z m
  | 0 => rfl
  | m + 1 => by
    have h := ocN_mf1 hk ho m
    have e := (mf1_keep S k).2.2.1 m
    unfold ocN
    rw [e]
    by_cases q : m = k
    · subst q
      rw [if_pos rfl, if_neg ho, if_pos hk, if_pos (by omega)]
      rw [if_neg (by omega)] at h
      omega
    · rw [if_neg q]
      by_cases q2 : k < m
      · rw [if_pos q2] at h
        rw [if_pos (show k < m + 1 by omega)]
        by_cases q3 : S 21 0 m = z
        · rw [if_pos q3, if_pos q3]
          omega
        · rw [if_neg q3, if_neg q3]
          omega
      · rw [if_neg q2] at h
        rw [if_neg (show ¬ k < m + 1 by omega)]
        by_cases q3 : S 21 0 m = z
        · rw [if_pos q3, if_pos q3]
          omega
        · rw [if_neg q3, if_neg q3]
          omega
theorem lotM_mf1 {S : St} {z : Int} {k : Nat} (hk : S 21 0 k = z) (ho : ownN S (S 22 0 k) (nM S) ≠ z) {m : Nat} (hm : k < m) : lotM (mf1 S k) z m = lotM S z m + -(S 22 0 k) := by
  have e := mf1_keep S k
  unfold lotM
  refine smN_upd hm (fun c hc => ?_) ?_
  · rw [e.2.2.1 c, if_neg hc, e.1 22 (by omega) (by omega) (by omega)]
  · rw [e.2.2.1 k, if_pos rfl, if_neg ho, if_pos hk]
    omega
/-- what holds while clients are moved -/
def fInv (S0 S : St) (z : Int) : Prop := (∀ t, t ≠ 11 → t ≠ 21 → t ≠ 23 → S t = S0 t) ∧ (∀ c, c ≠ 13 → c ≠ 19 → S 11 0 c = S0 11 0 c) ∧ mO S ∧ (0 ≤ S 11 0 13 ∧ S 11 0 13 + ocN S z (nC S0) ≤ 1000000) ∧ 0 ≤ S 11 0 19 ∧ S 11 0 19 + lotM S z (nC S0) ≤ 120
theorem fInv_nC {S0 S : St} {z : Int} (h : fInv S0 S z) : nC S = nC S0 ∧ nM S = nM S0 := by
  unfold nC nM
  rw [h.2.1 14 (by omega) (by omega), h.2.1 9 (by omega) (by omega)]
  exact ⟨rfl, rfl⟩
theorem fInv_step {S0 S : St} {z : Int} (h : fInv S0 S z) (hc : nC S0 ≤ 1000) (hm : nM S0 ≤ 10) {i : Nat} (ez : z = i) (hi : ¬ mact S0 i) (hf : foN S z (nC S) ≠ -1) : fInv S0 (mf1 S (foN S z (nC S)).toNat) z ∧ ocN (mf1 S (foN S z (nC S)).toNat) z (nC S0) + 1 = ocN S z (nC S0) ∧ (foN S z (nC S)).toNat < nC S0 ∧ foN S z (nC S) = (foN S z (nC S)).toNat ∧ ownN S (S 22 0 (foN S z (nC S)).toNat) (nM S) ≠ z := by
  have hn := fInv_nC h
  rcases foN_rng S z (nC S) with hf2 | ⟨j, ej, hj, hjz, _⟩
  · exact absurd hf2.1 hf
  have ek : (foN S z (nC S)).toNat = j := by omega
  rw [ek]
  have ho : ownN S (S 22 0 j) (nM S) ≠ z := by
    rcases ownN_rng (S := S) (lots := S 22 0 j) (nM S) with h1 | ⟨u, hu, hu2, hu3, _⟩
    · omega
    · intro q
      have : u = i := by omega
      subst this
      apply hi
      unfold mact at hu3 ⊢
      rw [← h.1 17 (by omega) (by omega) (by omega)]
      exact hu3
  have hor : -1 ≤ ownN S (S 22 0 j) (nM S) ∧ ownN S (S 22 0 j) (nM S) < 10 := by
    rcases ownN_rng (S := S) (lots := S 22 0 j) (nM S) with h1 | ⟨u, hu, hu2, hu3, _⟩ <;> omega
  have hoc := ocN_mf1 hjz ho (nC S0)
  rw [if_pos (by omega)] at hoc
  have hlm := lotM_mf1 hjz ho (m := nC S0) (by omega)
  have e := mf1_keep S j
  have hlj := (h.2.2.1 j (by omega)).2.1
  refine ⟨⟨fun t a b c => ?_, fun c a b => ?_, fun k hk => ?_, ?_, ?_⟩, hoc, by omega, by omega, ho⟩
  · rw [e.1 t a b c, h.1 t a b c]
  · rw [e.2.1 c a b, h.2.1 c a b]
  · have hO := h.2.2.1 k hk
    rw [e.2.2.1 k, e.1 22 (by omega) (by omega) (by omega), e.2.2.2.1 k]
    have h4 := h.2.2.2.1
    by_cases q : k = j
    · rw [if_pos q, if_pos q]
      omega
    · rw [if_neg q, if_neg q]
      exact hO
  · rw [e.2.2.2.2.1]
    have h4 := h.2.2.2.1
    omega
  · rw [e.2.2.2.2.2, hlm]
    have h4 := h.2.2.2.2
    split <;> omega
theorem ocN_0 {S : St} {z : Int} : ∀ {m : Nat}, ocN S z m = 0 → foN S z m = -1
  | 0, _ => rfl
  | m + 1, h => by
    unfold ocN at h
    split at h
    · omega
    · rename_i q
      unfold foN
      rw [if_neg (fun w => q w.1)]
      exact ocN_0 h
theorem fInv_end {S0 : St} (hc : nC S0 ≤ 1000) (hm : nM S0 ≤ 10) {i : Nat} (hi : ¬ mact S0 i) : ∀ (f : Nat) (S : St), fInv S0 S i → ocN S i (nC S0) ≤ f → fInv S0 (mfN i f S) i ∧ foN (mfN i f S) i (nC S0) = -1
  | 0, S, h, hf => ⟨h, show foN S i (nC S0) = -1 from ocN_0 (by omega)⟩
  | f + 1, S, h, hf => by
    have hn := fInv_nC h
    unfold mfN
    split
    · rename_i q
      rw [hn.1] at q
      exact ⟨h, q⟩
    · rename_i q
      have hs := fInv_step h hc hm rfl hi q
      exact fInv_end hc hm hi f _ hs.1 (by omega)
def mfl (S : St) (j : Nat) (lots : Int) : St := up3 (up3 (up3 (thr S 0) 17 0 j 2) 11 0 18 j) 11 0 19 lots
def mfF (S : St) (j : Nat) (lots : Int) : St := mfN j (ocN (mfl S j lots) j (nC S)) (mfl S j lots)
def mfailS (S : St) (j : Nat) (lots : Int) : St := aS (aS (mfF S j lots) 25 (fun k => if k < nM S then S 13 0 k else 0) 10) 24 (fun _ => 5000) (10 * nB (mfF S j lots))
theorem mfl_inv {S : St} (hI : mI S) {j : Nat} (hj : j < 10) {lots : Int} (hl : 1 ≤ lots ∧ lots ≤ 20) (hlm : lotM S j (nC S) ≤ 100) (hcame : S 11 0 13 ≤ 900000) : fInv (mfl S j lots) (mfl S j lots) j ∧ nC (mfl S j lots) = nC S ∧ nM (mfl S j lots) = nM S ∧ ¬ mact (mfl S j lots) j := by
  have hN := hI.1
  unfold mN at hN
  have hnc : nC S ≤ 1000 := by unfold nC; omega
  have ho := ocN_le (mfl S j lots) j (nC S)
  have e13 : mfl S j lots 11 0 13 = S 11 0 13 := by simp [mfl, thr, up3]
  have e19 : mfl S j lots 11 0 19 = lots := by simp [mfl, thr, up3]
  have elm : lotM (mfl S j lots) j (nC S) = lotM S j (nC S) := rfl
  have e17 : mfl S j lots 17 0 j = 2 := by simp [mfl, thr, up3]
  have enC : nC (mfl S j lots) = nC S := by unfold nC; simp [mfl, thr, up3]
  have enM : nM (mfl S j lots) = nM S := by unfold nM; simp [mfl, thr, up3]
  have hl0 := lotM_rng hI.2.2.1 j (nC S) hnc
  refine ⟨⟨fun _ _ _ _ => rfl, fun _ _ _ => rfl, hI.2.2.1, ?_, ?_⟩, enC, enM, ?_⟩
  · rw [e13, enC]
    omega
  · rw [e19, enC, elm]
    omega
  · unfold mact
    omega
theorem mfF_inv {S : St} (hI : mI S) {j : Nat} (hj : j < 10) {lots : Int} (hl : 1 ≤ lots ∧ lots ≤ 20) (hlm : lotM S j (nC S) ≤ 100) (hcame : S 11 0 13 ≤ 900000) : fInv (mfl S j lots) (mfF S j lots) j ∧ foN (mfF S j lots) j (nC S) = -1 := by
  have h := mfl_inv hI hj hl hlm hcame
  have hN := hI.1
  unfold mN at hN
  have hn := nM_le hI.1.1
  have hnc : nC S ≤ 1000 := by unfold nC; omega
  have he := fInv_end (S0 := mfl S j lots) (by rw [h.2.1]; exact hnc) (by rw [h.2.2.1]; exact hn) h.2.2.2 (ocN (mfl S j lots) j (nC S)) _ h.1 (by rw [h.2.1]; exact Nat.le_refl _)
  rw [h.2.1] at he
  exact he
section XMFail
variable {g : Gl} {S : St} {Ret : Option AV → St → Prop} {Thr : String → St → Prop}
theorem m_newOwnerV {lots v : Int} (hv : ownN S lots (nM S) = v) (hl : 0 ≤ lots ∧ lots ≤ 20) (hm : 0 ≤ S 11 0 9 ∧ S 11 0 9 ≤ 10) (hc : 0 ≤ S 11 0 14 ∧ S 11 0 14 ≤ 1000) (hR : mR S) (hO : mO S) (h : Ret (some (vI v)) S) : Cn g yX4_newOwner cX4_newOwner 3 (some .int) 2 44 0 [vR 11 0, vI lots] S Ret Thr := by
  subst hv
  exact m_newOwner hl hm hc hR hO h
theorem m_fail {z v : Int} (hz : -2147483648 ≤ z ∧ z ≤ 2147483647) (hv : -2147483648 ≤ v ∧ v ≤ 2147483647) (hI : mI S) (hcame : S 11 0 13 ≤ 900000) (hlm : ∀ j : Nat, j < 10 → lotM S j (nC S) ≤ 100)
    (hok : ∀ j : Nat, z = j → j < 10 → (j : Int) < S 11 0 9 → (1 ≤ v ∧ v ≤ 20) → mact S j → S 11 0 18 = -1 → Ret (some (vI (mfF S j v 11 0 19))) (mfailS S j v))
    (h1 : ¬ (0 ≤ z ∧ z < S 11 0 9) → Ret (some (vI 0)) (thr S 1)) (h2 : (0 ≤ z ∧ z < S 11 0 9) → ¬ (1 ≤ v ∧ v ≤ 20) → Ret (some (vI 0)) (thr S 2)) (h3 : ∀ j : Nat, z = j → j < 10 → (j : Int) < S 11 0 9 → (1 ≤ v ∧ v ≤ 20) → ¬ (mact S j ∧ S 11 0 18 = -1) → Ret (some (vI 0)) (thr S 3)) : Cn g yX4_fail cX4_fail 5 (some .int) 3 66 0 [vR 11 0, vI z, vI v] S Ret Thr := by
  refine enter (L := [some (vR 11 0), some (vI z), some (vI v), none, none]) (by decide +kernel) (Nat.le_of_ble_eq_true rfl) rfl (fun K MM => ?_)
  have M := MM.mk
  have hN := hI.1
  unfold mN at hN
  have hn := nM_le hI.1.1
  have hne := nM_eq hI.1.1
  have hnc : nC S ≤ 1000 := by unfold nC; omega
  have h57 : ∀ j : Nat, z = j → j < 10 → (j : Int) < S 11 0 9 → (1 ≤ v ∧ v ≤ 20) → mact S j → S 11 0 18 = -1 → K 0 57 [some (vR 11 0), some (vI j), some (vI v), none, none] [] (thr S 0) := by
    intro j ej hj hjc q2 q3 q4
    have hA := mfl_inv hI hj q2 (hlm j hj) hcame
    have hF := mfF_inv hI hj q2 (hlm j hj) hcame
    have hok := hok j ej hj hjc q2 q3 q4
    have hFn := fInv_nC hF.1
    have h19 := hF.1.2.2.2.2
    have hlF := lotM_rng hF.1.2.2.1 j (nC S) hnc
    rw [hA.2.1] at h19
    have e9 : mfF S j v 11 0 9 = S 11 0 9 := by rw [hF.1.2.1 9 (by omega) (by omega)]; simp [mfl, thr, up3]
    have e13 : mfF S j v 13 = S 13 := by rw [hF.1.1 13 (by omega) (by omega) (by omega)]; rfl
    have hnb : ((nB (mfF S j v) : Nat) : Int) = mfF S j v 11 0 19 := by unfold nB; omega
    have h202 : ∀ c3 c4, K 0 202 [some (vR 11 0), some (vI j), some (vI v), some (vI c3), some (vI c4)] [] (aS (mfF S j v) 25 (fun k => if k < nM S then S 13 0 k else 0) 10) := by
      intro c3 c4
      refine r_iconst M dX4_fail_202 ?_
      refine r_istore_4 M dX4_fail_203 (by decide) rfl ?_
      refine k_S (S1 := aS (aS (mfF S j v) 25 (fun k => if k < nM S then S 13 0 k else 0) 10) 24 (fun _ => 5000) 0) ?_ (aS_0 _ _ _).symm
      refine fz (P := fun l => K 0 205 [some (vR 11 0), some (vI j), some (vI v), some (vI c3), some (vI (l : Int))] [] (aS (aS (mfF S j v) 25 (fun k => if k < nM S then S 13 0 k else 0) 10) 24 (fun _ => 5000) l)) (m := 10 * nB (mfF S j v)) ?_ ?_
      · refine r_iload M dX4_fail_205 rfl ?_
        refine r_bipush M dX4_fail_207 rfl ?_
        refine r_aload_n M dX4_fail_209 rfl ?_
        refine r_getV M dX4_fail_210 fk_X4_107 (by decide) rfl (mfF S j v 11 0 19) (by rfl) ?_
        refine r_imul M dX4_fail_213 ?_
        refine r_icmp_ge M dX4_fail_214 (tgt := 233) rfl (by omega) (fun b214 => ?_) (fun b214 => by omega)
        refine r_aload_n M dX4_fail_233 rfl ?_
        refine r_getV M dX4_fail_234 fk_X4_107 (by decide) rfl (mfF S j v 11 0 19) (by rfl) ?_
        refine r_iret MM dX4_fail_237 ?_
        exact hok
      · intro l hl hP
        refine r_iload M dX4_fail_205 rfl ?_
        refine r_bipush M dX4_fail_207 rfl ?_
        refine r_aload_n M dX4_fail_209 rfl ?_
        refine r_getV M dX4_fail_210 fk_X4_107 (by decide) rfl (mfF S j v 11 0 19) (by rfl) ?_
        refine r_imul M dX4_fail_213 ?_
        refine r_icmp_ge M dX4_fail_214 (tgt := 233) rfl (by omega) (fun b214 => by omega) (fun b214 => ?_)
        refine r_aload_n M dX4_fail_217 rfl ?_
        refine r_getR M dX4_fail_218 fk_X4_50 (by decide) rfl ?_
        refine r_iload M dX4_fail_221 rfl ?_
        refine r_sipush M dX4_fail_223 rfl ?_
        refine r_iast M (l) dX4_fail_226 ⟨rfl, by decide⟩ (by decide) rfl (show (_ : Nat) < 1200 by omega) (Nat.le_of_ble_eq_true rfl) ?_
        refine r_iinc_4 M (((l + 1 : Nat) : Int)) dX4_fail_227 (by omega) (by decide) rfl ?_
        refine r_goto M dX4_fail_230 (tgt := 205) rfl ?_
        exact k_S hP (aS_s rfl)
    have h162 : ∀ c3, K 0 162 [some (vR 11 0), some (vI j), some (vI v), some (vI c3), some (vI ((0 : Nat) : Int))] [] (mfF S j v) := by
      intro c3
      refine k_S (S1 := aS (mfF S j v) 25 (fun k => if k < nM S then S 13 0 k else 0) 0) ?_ (aS_0 _ _ _).symm
      refine fz (P := fun l => K 0 162 [some (vR 11 0), some (vI j), some (vI v), some (vI c3), some (vI (l : Int))] [] (aS (mfF S j v) 25 (fun k => if k < nM S then S 13 0 k else 0) l)) (m := 10) ?_ ?_
      · refine r_iload M dX4_fail_162 rfl ?_
        refine r_bipush M dX4_fail_164 rfl ?_
        refine r_icmp_ge M dX4_fail_166 (tgt := 202) rfl (by omega) (fun b166 => ?_) (fun b166 => by omega)
        exact h202 _ _
      · intro l hl hP
        have hr := (hI.2.1 l (by omega)).2.1
        refine r_iload M dX4_fail_162 rfl ?_
        refine r_bipush M dX4_fail_164 rfl ?_
        refine r_icmp_ge M dX4_fail_166 (tgt := 202) rfl (by omega) (fun b166 => by omega) (fun b166 => ?_)
        refine r_aload_n M dX4_fail_169 rfl ?_
        refine r_getR M dX4_fail_170 fk_X4_53 (by decide) rfl ?_
        refine r_iload M dX4_fail_173 rfl ?_
        refine r_iload M dX4_fail_175 rfl ?_
        refine r_aload_n M dX4_fail_177 rfl ?_
        refine r_getV M dX4_fail_178 fk_X4_68 (by decide) rfl (S 11 0 9) (by exact e9) ?_
        refine r_icmp_ge M dX4_fail_181 (tgt := 194) rfl (by omega) (fun b181 => ?_) (fun b181 => ?_)
        · refine r_iconst M dX4_fail_194 ?_
          refine r_iast M (l) dX4_fail_195 ⟨rfl, by decide⟩ (by decide) rfl (show (_ : Nat) < 10 by omega) (Nat.le_of_ble_eq_true rfl) ?_
          refine r_iinc_4 M (((l + 1 : Nat) : Int)) dX4_fail_196 (by omega) (by decide) rfl ?_
          refine r_goto M dX4_fail_199 (tgt := 162) rfl ?_
          first | exact k_S hP (aS_s (show S 13 0 l = (if l < nM S then S 13 0 l else 0) by rw [if_pos (by omega)])) | exact k_S hP (aS_s (show (0 : Int) = (if l < nM S then S 13 0 l else 0) by rw [if_neg (by omega)]))
        refine r_aload_n M dX4_fail_184 rfl ?_
        refine r_getR M dX4_fail_185 fk_X4_13 (by decide) rfl ?_
        refine r_iload M dX4_fail_188 rfl ?_
        refine r_ialdV M (l) dX4_fail_190 ⟨rfl, by decide⟩ (by decide) rfl (show (_ : Nat) < 10 by omega) (Nat.le_of_ble_eq_true rfl) (S 13 0 l) (by show mfF S j v 13 0 l = _; rw [e13]) ?_
        refine r_goto M dX4_fail_191 (tgt := 195) rfl ?_
        refine r_iast M (l) dX4_fail_195 ⟨rfl, by decide⟩ (by decide) rfl (show (_ : Nat) < 10 by omega) (Nat.le_of_ble_eq_true rfl) ?_
        refine r_iinc_4 M (((l + 1 : Nat) : Int)) dX4_fail_196 (by omega) (by decide) rfl ?_
        refine r_goto M dX4_fail_199 (tgt := 162) rfl ?_
        first | exact k_S hP (aS_s (show S 13 0 l = (if l < nM S then S 13 0 l else 0) by rw [if_pos (by omega)])) | exact k_S hP (aS_s (show (0 : Int) = (if l < nM S then S 13 0 l else 0) by rw [if_neg (by omega)]))
    have h80 : ∀ (f : Nat) (S' : St), fInv (mfl S j v) S' j → ocN S' j (nC S) ≤ f → mfN j f S' = mfF S j v → K 0 80 [some (vR 11 0), some (vI j), some (vI v), some (vI (foN S' j (nC S))), none] [] S' := by
      have hend : ∀ S', fInv (mfl S j v) S' j → foN S' j (nC S) = -1 → S' = mfF S j v → K 0 80 [some (vR 11 0), some (vI j), some (vI v), some (vI (foN S' j (nC S))), none] [] S' := by
        intro S' hS e1 e2
        rw [e1]
        subst e2
        refine r_iload_n M dX4_fail_80 rfl ?_
        refine r_iconst M dX4_fail_81 ?_
        refine r_icmp_eq M dX4_fail_82 (tgt := 159) rfl (by omega) (fun b82 => ?_) (fun b82 => by omega)
        refine r_iconst M dX4_fail_159 ?_
        refine r_istore_4 M dX4_fail_160 (by decide) rfl ?_
        exact h162 _
      intro f
      induction f with
      | zero =>
        intro S' hS hf he
        exact hend S' hS (ocN_0 (by omega)) he
      | succ f ih =>
        intro S' hS hf he
        have hn' := fInv_nC hS
        rw [hA.2.1, hA.2.2.1] at hn'
        unfold mfN at he
        rw [hn'.1] at he
        by_cases hfo : foN S' j (nC S) = -1
        · rw [if_pos hfo] at he
          exact hend S' hS hfo he
        · rw [if_neg hfo] at he
          have hst := fInv_step hS (by rw [hA.2.1]; exact hnc) (by rw [hA.2.2.1]; exact hn) rfl hA.2.2.2 (by rw [hn'.1]; exact hfo)
          rw [hn'.1, hA.2.1] at hst
          have hP := ih _ hst.1 (by omega) he
          obtain ⟨hinv, hoc, hk, ek, _⟩ := hst
          generalize (foN S' j (nC S)).toNat = k at *
          have hnc' := fInv_nC hinv
          rw [hA.2.1] at hnc'
          have hO' := (hS.2.2.1 k (by omega))
          have e9' : S' 11 0 9 = S 11 0 9 := by rw [hS.2.1 9 (by omega) (by omega)]; simp [mfl, thr, up3]
          have e14' : S' 11 0 14 = S 11 0 14 := by rw [hS.2.1 14 (by omega) (by omega)]; simp [mfl, thr, up3]
          have hR' : mR S' := by
            intro u hu
            have hu' := hI.2.1 u hu
            have h17 : 0 ≤ mfl S j v 17 0 u ∧ mfl S j v 17 0 u ≤ 3 := by
              have h9 := hu'.2.2.2.2.2.1
              have e : mfl S j v 17 0 u = if u = j then 2 else S 17 0 u := by simp [mfl, thr, up3]
              rw [e]
              split <;> omega
            rw [hS.1 12 (by omega) (by omega) (by omega), hS.1 13 (by omega) (by omega) (by omega), hS.1 14 (by omega) (by omega) (by omega), hS.1 15 (by omega) (by omega) (by omega), hS.1 16 (by omega) (by omega) (by omega), hS.1 17 (by omega) (by omega) (by omega), hS.1 18 (by omega) (by omega) (by omega), hS.1 25 (by omega) (by omega) (by omega)]
            exact ⟨hu'.1, hu'.2.1, hu'.2.2.1, hu'.2.2.2.1, hu'.2.2.2.2.1, h17, hu'.2.2.2.2.2.2.1, hu'.2.2.2.2.2.2.2⟩
          have h13 := hS.2.2.2.1
          have h19 := hS.2.2.2.2
          have hown : -1 ≤ ownN S' (S' 22 0 k) (nM S') ∧ ownN S' (S' 22 0 k) (nM S') < 10 := by
            rcases ownN_rng (S := S') (lots := S' 22 0 k) (nM S') with h1 | ⟨u, hu, hu2, hu3, _⟩
            · omega
            · rw [hn'.2] at hu2
              omega
          have hl9 := lotM_rng hS.2.2.1 j (nC S) hnc
          rw [hA.2.1] at h13 h19
          have h146 : ∀ x, x = (if ownN S' (S' 22 0 k) (nM S') = -1 then S' 22 0 k else 0) → K 0 146 [some (vR 11 0), some (vI j), some (vI v), some (vI k), none] [vI x, vI (S' 11 0 19), vR 11 0] (up3 (up3 (up3 S' 21 0 k (ownN S' (S' 22 0 k) (nM S'))) 23 0 k (S' 11 0 13)) 11 0 13 (S' 11 0 13 + 1)) := by
            intro x hx
            subst hx
            have e14'' : mf1 S' k 11 0 14 = S 11 0 14 := by rw [(mf1_keep S' k).2.1 14 (by omega) (by omega)]; exact e14'
            rw [← hnc'.1] at hP
            refine r_iadd M dX4_fail_146 ?_
            refine r_putI M dX4_fail_147 pk_X4_107 (by decide) ?_
            refine r_aload_n M dX4_fail_150 rfl ?_
            refine r_iload_n M dX4_fail_151 rfl ?_
            refine r_callV1 MM dX4_fail_152 ck_X4_110 vk_X4_firstOf ⟨by omega, by omega, by omega⟩ ⟨by decide, by decide, rfl⟩ (by decide) (Nat.le_of_ble_eq_true rfl) (m_firstOf (S := mf1 S' k) (by omega) (by rw [e14'']; omega) hinv.2.2.1 ?_)
            refine r_istore_3 M dX4_fail_155 (by decide) rfl ?_
            refine r_goto M dX4_fail_156 (tgt := 80) rfl ?_
            exact hP
          rw [ek]
          refine r_iload_n M dX4_fail_80 rfl ?_
          refine r_iconst M dX4_fail_81 ?_
          refine r_icmp_eq M dX4_fail_82 (tgt := 159) rfl (by omega) (fun b82 => by omega) (fun b82 => ?_)
          refine r_aload_n M dX4_fail_85 rfl ?_
          refine r_getR M dX4_fail_86 fk_X4_37 (by decide) rfl ?_
          refine r_iload_n M dX4_fail_89 rfl ?_
          refine r_aload_n M dX4_fail_90 rfl ?_
          refine r_aload_n M dX4_fail_91 rfl ?_
          refine r_getR M dX4_fail_92 fk_X4_40 (by decide) rfl ?_
          refine r_iload_n M dX4_fail_95 rfl ?_
          refine r_ialdV M (k) dX4_fail_96 ⟨rfl, by decide⟩ (by decide) rfl (show (_ : Nat) < 1000 by omega) (Nat.le_of_ble_eq_true rfl) (S' 22 0 k) (by rfl) ?_
          refine r_callV1 MM dX4_fail_97 ck_X4_113 vk_X4_newOwner ⟨by omega, by omega, by omega⟩ ⟨by decide, by decide, rfl⟩ (by decide) (Nat.le_of_ble_eq_true rfl) (m_newOwner (by omega) (by rw [e9']; omega) (by rw [e14']; omega) hR' hS.2.2.1 ?_)
          refine r_iast M (k) dX4_fail_100 ⟨rfl, by decide⟩ (by decide) rfl (show (_ : Nat) < 1000 by omega) (Nat.le_of_ble_eq_true rfl) ?_
          refine r_aload_n M dX4_fail_101 rfl ?_
          refine r_getR M dX4_fail_102 fk_X4_43 (by decide) rfl ?_
          refine r_iload_n M dX4_fail_105 rfl ?_
          refine r_aload_n M dX4_fail_106 rfl ?_
          refine r_getV M dX4_fail_107 fk_X4_96 (by decide) rfl (S' 11 0 13) (by rfl) ?_
          refine r_iast M (k) dX4_fail_110 ⟨rfl, by decide⟩ (by decide) rfl (show (_ : Nat) < 1000 by omega) (Nat.le_of_ble_eq_true rfl) ?_
          refine r_aload_n M dX4_fail_111 rfl ?_
          refine r_dupR M dX4_fail_112 ?_
          refine r_getV M dX4_fail_113 fk_X4_96 (by decide) rfl (S' 11 0 13) (by rfl) ?_
          refine r_iconst M dX4_fail_116 ?_
          refine r_iadd M dX4_fail_117 ?_
          refine r_putI M dX4_fail_118 pk_X4_96 (by decide) ?_
          refine r_aload_n M dX4_fail_121 rfl ?_
          refine r_dupR M dX4_fail_122 ?_
          refine r_getV M dX4_fail_123 fk_X4_107 (by decide) rfl (S' 11 0 19) (by rfl) ?_
          refine r_aload_n M dX4_fail_126 rfl ?_
          refine r_getR M dX4_fail_127 fk_X4_37 (by decide) rfl ?_
          refine r_iload_n M dX4_fail_130 rfl ?_
          refine r_ialdV M (k) dX4_fail_131 ⟨rfl, by decide⟩ (by decide) rfl (show (_ : Nat) < 1000 by omega) (Nat.le_of_ble_eq_true rfl) (ownN S' (S' 22 0 k) (nM S')) (by simp [up3]) ?_
          refine r_iconst M dX4_fail_132 ?_
          refine r_icmp_ne M dX4_fail_133 (tgt := 145) rfl (by omega) (fun b133 => ?_) (fun b133 => ?_)
          · refine r_iconst M dX4_fail_145 ?_
            first | exact h146 _ (by rw [if_pos (by omega)]) | exact h146 _ (by rw [if_neg (by omega)])
          refine r_aload_n M dX4_fail_136 rfl ?_
          refine r_getR M dX4_fail_137 fk_X4_40 (by decide) rfl ?_
          refine r_iload_n M dX4_fail_140 rfl ?_
          refine r_ialdV M (k) dX4_fail_141 ⟨rfl, by decide⟩ (by decide) rfl (show (_ : Nat) < 1000 by omega) (Nat.le_of_ble_eq_true rfl) (S' 22 0 k) (by rfl) ?_
          refine r_goto M dX4_fail_142 (tgt := 146) rfl ?_
          first | exact h146 _ (by rw [if_pos (by omega)]) | exact h146 _ (by rw [if_neg (by omega)])
    refine r_aload_n M dX4_fail_57 rfl ?_
    refine r_getR M dX4_fail_58 fk_X4_25 (by decide) rfl ?_
    refine r_iload_n M dX4_fail_61 rfl ?_
    refine r_iconst M dX4_fail_62 ?_
    refine r_iast M (j) dX4_fail_63 ⟨rfl, by decide⟩ (by decide) rfl (show (_ : Nat) < 10 by omega) (Nat.le_of_ble_eq_true rfl) ?_
    refine r_aload_n M dX4_fail_64 rfl ?_
    refine r_iload_n M dX4_fail_65 rfl ?_
    refine r_putI M dX4_fail_66 pk_X4_46 (by decide) ?_
    refine r_aload_n M dX4_fail_69 rfl ?_
    refine r_iload_n M dX4_fail_70 rfl ?_
    refine r_putI M dX4_fail_71 pk_X4_107 (by decide) ?_
    refine r_aload_n M dX4_fail_74 rfl ?_
    refine r_iload_n M dX4_fail_75 rfl ?_
    refine r_callV1 MM dX4_fail_76 ck_X4_110 vk_X4_firstOf ⟨by omega, by omega, by omega⟩ ⟨by decide, by decide, rfl⟩ (by decide) (Nat.le_of_ble_eq_true rfl) (m_firstOf (S := mfl S j v) (by omega) (by rw [show mfl S j v 11 0 14 = S 11 0 14 from rfl]; omega) hI.2.2.1 ?_)
    refine r_istore_3 M dX4_fail_79 (by decide) rfl ?_
    exact h80 _ _ hA.1 (Nat.le_refl _) rfl
  refine r_aload_n M dX4_fail_0 rfl ?_
  refine r_iconst M dX4_fail_1 ?_
  refine r_putI M dX4_fail_2 pk_X4_65 (by decide) ?_
  refine r_aload_n M dX4_fail_5 rfl ?_
  refine r_iload_n M dX4_fail_6 rfl ?_
  refine r_callV1 MM dX4_fail_7 ck_X4_86 vk_X4_isMember ⟨by omega, by omega, by omega⟩ ⟨by decide, by decide, rfl⟩ (by decide) (Nat.le_of_ble_eq_true rfl) (m_isMember (c := S 11 0 9) rfl hz hI.1.1 (fun j ej hj hjc => ?_) (fun hb => ?_))
  · refine r_if_ne M dX4_fail_10 (tgt := 19) rfl (by omega) (fun b10 => ?_) (fun b10 => by omega)
    refine r_iload_n M dX4_fail_19 rfl ?_
    refine r_iconst M dX4_fail_20 ?_
    refine r_bipush M dX4_fail_21 rfl ?_
    refine r_callS3 MM dX4_fail_23 sl_X4_71 st_X4_in rfl ck_X4_71 ⟨by omega, by omega, by omega⟩ (Nat.le_of_ble_eq_true rfl) (m_in hv (by omega) (by omega) (fun q2 => ?_) (fun q2 => ?_))
    · refine r_if_ne M dX4_fail_26 (tgt := 35) rfl (by omega) (fun b26 => ?_) (fun b26 => by omega)
      refine r_aload_n M dX4_fail_35 rfl ?_
      refine r_iload_n M dX4_fail_36 rfl ?_
      refine r_callV1 MM dX4_fail_37 ck_X4_90 vk_X4_isActive ⟨by omega, by omega, by omega⟩ ⟨by decide, by decide, rfl⟩ (by decide) (Nat.le_of_ble_eq_true rfl) (m_isActive ej hj (v := S 17 0 j) rfl (by have h9 := (hI.2.1 j hj).2.2.2.2.2.1; omega) (fun q3 => ?_) (fun q3 => ?_))
      · refine r_if_eq M dX4_fail_40 (tgt := 51) rfl (by omega) (fun b40 => by omega) (fun b40 => ?_)
        refine r_aload_n M dX4_fail_43 rfl ?_
        refine r_getV M dX4_fail_44 fk_X4_46 (by decide) rfl (S 11 0 18) (by rfl) ?_
        refine r_iconst M dX4_fail_47 ?_
        refine r_icmp_eq M dX4_fail_48 (tgt := 57) rfl (by omega) (fun b48 => ?_) (fun b48 => ?_)
        rotate_left
        · refine r_aload_n M dX4_fail_51 rfl ?_
          refine r_iconst M dX4_fail_52 ?_
          refine r_callV1 MM dX4_fail_53 ck_X4_76 vk_X4_fails ⟨by omega, by omega, by omega⟩ ⟨by decide, by decide, rfl⟩ (by decide) (Nat.le_of_ble_eq_true rfl) (m_fails ?_)
          refine r_iret MM dX4_fail_56 ?_
          first | exact ret_S (h3 j ej hj hjc q2 (fun w => q3 w.1)) (thr_thr S 0 3) | exact ret_S (h3 j ej hj hjc q2 (fun w => b48 w.2)) (thr_thr S 0 3)
        subst ej; exact h57 j rfl hj hjc q2 q3 b48
      refine r_if_eq M dX4_fail_40 (tgt := 51) rfl (by omega) (fun b40 => ?_) (fun b40 => by omega)
      refine r_aload_n M dX4_fail_51 rfl ?_
      refine r_iconst M dX4_fail_52 ?_
      refine r_callV1 MM dX4_fail_53 ck_X4_76 vk_X4_fails ⟨by omega, by omega, by omega⟩ ⟨by decide, by decide, rfl⟩ (by decide) (Nat.le_of_ble_eq_true rfl) (m_fails ?_)
      refine r_iret MM dX4_fail_56 ?_
      first | exact ret_S (h3 j ej hj hjc q2 (fun w => q3 w.1)) (thr_thr S 0 3) | exact ret_S (h3 j ej hj hjc q2 (fun w => b48 w.2)) (thr_thr S 0 3)
    refine r_if_ne M dX4_fail_26 (tgt := 35) rfl (by omega) (fun b26 => by omega) (fun b26 => ?_)
    refine r_aload_n M dX4_fail_29 rfl ?_
    refine r_iconst M dX4_fail_30 ?_
    refine r_callV1 MM dX4_fail_31 ck_X4_76 vk_X4_fails ⟨by omega, by omega, by omega⟩ ⟨by decide, by decide, rfl⟩ (by decide) (Nat.le_of_ble_eq_true rfl) (m_fails ?_)
    refine r_iret MM dX4_fail_34 ?_
    exact ret_S (h2 (by omega) q2) (thr_thr S 0 2)
  refine r_if_ne M dX4_fail_10 (tgt := 19) rfl (by omega) (fun b10 => by omega) (fun b10 => ?_)
  refine r_aload_n M dX4_fail_13 rfl ?_
  refine r_iconst M dX4_fail_14 ?_
  refine r_callV1 MM dX4_fail_15 ck_X4_76 vk_X4_fails ⟨by omega, by omega, by omega⟩ ⟨by decide, by decide, rfl⟩ (by decide) (Nat.le_of_ble_eq_true rfl) (m_fails ?_)
  refine r_iret MM dX4_fail_18 ?_
  exact ret_S (h1 hb) (thr_thr S 0 1)
end XMFail
