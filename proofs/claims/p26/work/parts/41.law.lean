/-! ===== the law's turns ===== -/
/-- one field of a member and the array that stands for it -/
theorem MI_set {S : St} {i : Nat} {j f : Nat} {v : Int} (h : MI S i) (hf : f = 7 ∧ (0 ≤ v ∧ v ≤ 1000000) ∨ f = 8 ∧ (0 ≤ v ∧ v ≤ 1000000) ∨ f = 3 ∧ 0 ≤ v ∧ v ≤ 3) : MI (up3 S 4 j f v) i := by
  have e : ∀ k, up3 S 4 j f v 4 i k = if i = j ∧ k = f then v else S 4 i k := fun k => by simp [up3]
  have e5 : ∀ k, up3 S 4 j f v 5 i k = S 5 i k := fun k => by simp [up3]
  unfold MI at h ⊢
  obtain ⟨a1, a2, a3, a4, a5, a6, a7, a8, a9, a10, a11⟩ := h
  refine ⟨?_, ?_, ?_, ?_, ?_, ?_, ?_, ?_, ?_, ?_, fun k hk => ?_⟩
  all_goals first | (rw [e5]; exact a11 k hk) | (rw [e]; split <;> omega)
section LIK
variable {t : Nat} {S : St}
theorem LI.suc (h : LI t S) : LI (t + 1) S := by
  obtain ⟨⟨h1, h2, h3, h4, h5⟩, h7⟩ := h
  refine ⟨⟨h1, h2, h3, h4, fun i hi => ?_, ?_⟩, h7⟩
  · have := h5.1 i hi
    omega
  · have := h5.2
    omega
theorem LI.set (h : LI t S) {j f : Nat} {v : Int} (hf : f = 7 ∧ (0 ≤ v ∧ v ≤ 1000000) ∨ f = 8 ∧ (0 ≤ v ∧ v ≤ 1000000) ∨ f = 3 ∧ 0 ≤ v ∧ v ≤ 3) : LI t (up3 S 4 j f v) := by
  have e : ∀ t', t' ≠ 4 → up3 S 4 j f v t' = S t' := fun t' q => up3_t q
  have e4 : ∀ i k, k ≠ f → up3 S 4 j f v 4 i k = S 4 i k := fun i k q => up3_k q
  have hP := h.1.ci.2.2.2.2.2.1
  refine ⟨h.1.gen (CI_set h.1.ci (e 0 (by omega)) (e 2 (by omega)) (e 7 (by omega)) (by unfold smP; rw [e 8 (by omega), e 9 (by omega), e 10 (by omega)]; exact hP) (fun i hi => MI_set (h.1.ci.mem hi) hf)) (by rw [e 0 (by omega)]) (e 5 (by omega)) (fun i => ⟨e4 i 1 (by omega), e4 i 2 (by omega), e4 i 6 (by omega), e4 i 10 (by omega)⟩) (Z8_cong h.1.z8 (e 8 (by omega)) (by rw [e 0 (by omega)])) (e 12 (by omega)) (by rw [e 0 (by omega)]), by rw [e 0 (by omega)]; exact h.2⟩
theorem LI.cap (h : LI t S) {v : Int} (hv : 0 ≤ v ∧ v ≤ 1000000) : LI t (up3 S 0 0 4 v) := by
  have e : ∀ t', t' ≠ 0 → up3 S 0 0 4 v t' = S t' := fun t' q => up3_t q
  have e0 : ∀ k, k ≠ 4 → up3 S 0 0 4 v 0 0 k = S 0 0 k := fun k q => up3_k q
  exact ⟨h.1.gen (CI_00 h.1.ci (Or.inl ⟨rfl, hv⟩)) (e0 3 (by omega)) (e 5 (by omega)) (fun i => by rw [e 4 (by omega)]; exact ⟨rfl, rfl, rfl, rfl⟩) (Z8_cong h.1.z8 (e 8 (by omega)) (e0 3 (by omega))) (e 12 (by omega)) (e0 6 (by omega)), by rw [e0 7 (by omega)]; exact h.2⟩
theorem LI.sz (h : LI t S) : LI t (szS S) := by
  have e4 : ∀ i k, k ≠ 5 → szS S 4 i k = S 4 i k := fun i k q => by rw [sz_4, if_neg (fun z => q z.1)]
  exact ⟨h.1.gen (CI_sz h.1.ci).1 rfl rfl (fun i => ⟨e4 i 1 (by omega), e4 i 2 (by omega), e4 i 6 (by omega), e4 i 10 (by omega)⟩) (Z8_eat h.1.z8 _ _ _ _ _) rfl rfl, h.2⟩
theorem LI.join (h : LI t S) {j : Nat} (hj : S 0 0 3 = (j : Int)) (hj10 : j < 10) {a b c : Int} (ha : 0 ≤ a ∧ a ≤ 1000000) (hb : 0 ≤ b ∧ b ≤ 1000000) (hc : 0 ≤ c ∧ c ≤ 100) : LI t (up3 (joinS (up3 S 12 0 j c) j a b c) 0 0 3 (j + 1 : Int)) := by
  obtain ⟨X, hX⟩ : ∃ X, X = up3 (joinS (up3 S 12 0 j c) j a b c) 0 0 3 (j + 1 : Int) := ⟨_, rfl⟩
  have e : ∀ t', t' ≠ 0 → t' ≠ 4 → t' ≠ 12 → X t' = S t' := fun t' q0 q4 q12 => by
    rw [hX]
    unfold joinS
    rw [up3_t q0, up3_t q4, up3_t q4, up3_t q4, up3_t q12]
  have e0 : ∀ k, k ≠ 3 → X 0 0 k = S 0 0 k := fun k q => by
    rw [hX, up3_k q]
    unfold joinS
    rw [up3_t (by omega), up3_t (by omega), up3_t (by omega), up3_t (by omega)]
  have e03 : X 0 0 3 = (j : Int) + 1 := by rw [hX, up3_at]
  have e12 : ∀ k, X 12 0 k = if k = j then c else S 12 0 k := fun k => by
    rw [hX]
    unfold joinS
    rw [up3_t (by omega), up3_t (by omega), up3_t (by omega), up3_t (by omega)]
    by_cases q : k = j
    · rw [if_pos q, q, up3_at]
    · rw [if_neg q, up3_k q]
  have e4 : ∀ i k, X 4 i k = if i = j ∧ k = 6 then c else if i = j ∧ k = 5 then b else if i = j ∧ k = 4 then a else S 4 i k := fun i k => by
    rw [hX]
    simp [joinS, up3]
  rw [← hX]
  have hI := h.1.ci
  obtain ⟨a1, a2, a3, a4, a5, a6, a7⟩ := hI
  refine ⟨⟨⟨by rw [e03]; omega, by rw [e0 4 (by omega)]; exact a2, by rw [e0 7 (by omega)]; exact a3, by rw [e0 5 (by omega)]; exact a4, ?_, ?_, fun i hi => ?_⟩, fun i hi => ?_, fun k hk hc9 => ?_, fun k hk hc9 => ?_, fun i hi => ?_, ?_⟩, ?_⟩
  · unfold smA
    rw [e 2 (by omega) (by omega) (by omega), e 7 (by omega) (by omega) (by omega)]
    exact a5
  · unfold smP
    rw [e 8 (by omega) (by omega) (by omega), e 9 (by omega) (by omega) (by omega), e 10 (by omega) (by omega) (by omega)]
    exact a6
  · have hm := a7 i hi
    unfold MI at hm ⊢
    obtain ⟨b1, b2, b3, b4, b5, b6, b7, b8, b9, b10, b11⟩ := hm
    rw [e 5 (by omega) (by omega) (by omega)]
    refine ⟨?_, ?_, ?_, ?_, ?_, ?_, ?_, ?_, ?_, ?_, b11⟩
    all_goals rw [e4]
    all_goals split
    all_goals first | omega | (split <;> first | omega | (split <;> omega))
  · rw [e 5 (by omega) (by omega) (by omega), e4, e4, if_neg (by omega), if_neg (by omega), if_neg (by omega), if_neg (by omega), if_neg (by omega), if_neg (by omega)]
    exact h.1.cl i hi
  · rw [e03] at hc9
    rw [e 8 (by omega) (by omega) (by omega)]
    exact h.1.z8 k hk (by omega)
  · rw [e03] at hc9
    rw [e12, e4]
    by_cases q : k = j
    · rw [if_pos q, if_pos ⟨q, rfl⟩]
    · rw [if_neg q, if_neg (fun z => q z.1), if_neg (fun z => q z.1), if_neg (fun z => q z.1)]
      exact h.1.rm k hk (by omega)
  · rw [e4, if_neg (by omega), if_neg (by omega), if_neg (by omega)]
    exact h.1.bd.1 i hi
  · rw [e0 6 (by omega)]
    exact h.1.bd.2
  · rw [e0 7 (by omega)]
    exact h.2
end LIK
section XTurn
variable {g : Gl} {S : St} {Ret : Option AV → St → Prop} {Thr : String → St → Prop} {t : Nat}
theorem cs_addMember {j : Nat} {a b c : Int} (hI : CI S) (hj : S 0 0 3 = (j : Int)) (hj10 : j < 10) (ha : 0 ≤ a ∧ a ≤ 1000000) (hb : 0 ≤ b ∧ b ≤ 1000000) (hc : 0 ≤ c ∧ c ≤ 100) (h : Ret (some (vI (j : Int))) (up3 (joinS S j a b c) 0 0 3 (j + 1 : Int))) : Cn g yX3_addMember cX3_addMember 4 (some .int) 7 112 4 [vR 0 0, vI a, vI b, vI c] S Ret Thr := by
  refine cn_addMember (by omega) (by omega) (by omega) hI (fun i ei hi _ _ _ => ?_) (fun q => absurd ⟨ha, hb, hc⟩ q) (fun _ q => absurd (by omega) q)
  have e : i = j := by omega
  subst e
  exact h
theorem cs_setGain {l : Nat} {v : Int} (hI : CI S) (hl : (l : Int) < S 0 0 3) (hv : 0 ≤ v ∧ v ≤ 1000000) (ha : actv S l) (h : Ret (some (vI (S 4 l 7))) (up3 S 4 l 7 v)) : Cn g yX3_setGain cX3_setGain 5 (some .int) 7 112 3 [vR 0 0, vI (l : Int), vI v] S Ret Thr := by
  have hc := hI.cnt
  refine cn_setGain (by omega) (by omega) hI (fun j ej hj hjc _ _ => ?_) (fun q => absurd ⟨by omega, hl⟩ q) (fun _ q => absurd hv q) (fun j ej hj hjc _ q => ?_)
  · have e : j = l := by omega
    subst e
    exact h
  · have e : j = l := by omega
    subst e
    exact absurd ha q
theorem cs_setTested {l : Nat} {v : Int} (hI : CI S) (hl : (l : Int) < S 0 0 3) (hv : 0 ≤ v ∧ v ≤ 1000000) (ha : actv S l) (h : Ret (some (vI (S 4 l 8))) (up3 S 4 l 8 v)) : Cn g yX3_setTested cX3_setTested 5 (some .int) 7 112 3 [vR 0 0, vI (l : Int), vI v] S Ret Thr := by
  have hc := hI.cnt
  refine cn_setTested (by omega) (by omega) hI (fun j ej hj hjc _ _ => ?_) (fun q => absurd ⟨by omega, hl⟩ q) (fun _ q => absurd hv q) (fun j ej hj hjc _ q => ?_)
  · have e : j = l := by omega
    subst e
    exact h
  · have e : j = l := by omega
    subst e
    exact absurd ha q
theorem cs_setCapital {v : Int} (hv : 0 ≤ v ∧ v ≤ 1000000) (h : Ret (some (vI (S 0 0 4))) (up3 S 0 0 4 v)) : Cn g yX3_setCapital cX3_setCapital 3 (some .int) 7 112 1 [vR 0 0, vI v] S Ret Thr := cn_setCapital (by omega) (fun _ => h) (fun q => absurd hv q)
theorem cs_giveNotice {l : Nat} (hI : CI S) (hl : (l : Int) < S 0 0 3) (h3 : S 4 l 3 = 0) (h7 : S 0 0 7 = -1) (h : Ret none (up3 S 4 l 3 1)) : Cn g yX3_giveNotice cX3_giveNotice 3 none 7 111 3 [vR 0 0, vI (l : Int)] S Ret Thr := by
  have hc := hI.cnt
  refine cn_giveNotice (by omega) hI (fun j ej hj hjc _ _ => ?_) (fun q => absurd ⟨by omega, hl⟩ q) (fun j ej hj hjc q => ?_)
  · have e : j = l := by omega
    subst e
    exact h
  · have e : j = l := by omega
    subst e
    exact absurd ⟨h3, h7⟩ q
end XTurn
section LAW
variable {g : Gl} {b Ln : Nat} {xs : Nat → Int32} {K : KT}
/-- the law's loop, from its head on -/
theorem law_loop (MW : MkW g b Ln xs 20000 K) : ∀ turn, turn ≤ 14 → ∀ S, LI turn S → (1 ≤ turn → 1 ≤ S 0 0 3) → ∀ c5 c6 c7 c8, K (1100 * turn) 21 [some (vX b), some (vR 0 0), some (vR 11 0), some (vR 12 0), some (vI (turn : Int)), c5, c6, c7, c8] [] S := by
  have M := MW.mk
  have hloop := up_loop (P := fun turn => ∀ S, LI turn S → (1 ≤ turn → 1 ≤ S 0 0 3) → ∀ c5 c6 c7 c8, K (1100 * turn) 21 [some (vX b), some (vR 0 0), some (vR 11 0), some (vR 12 0), some (vI (turn : Int)), c5, c6, c7, c8] [] S) (m := 14) ?_ ?_
  · exact fun turn ht => hloop turn ht
  · intro S hL hn c5 c6 c7 c8
    refine r_iload M dL_law_21 rfl ?_
    refine r_bipush M dL_law_23 rfl ?_
    refine r_icmp_ge M dL_law_25 (tgt := 333) rfl (by omega) (fun b25 => ?_) (fun b25 => by omega)
    refine r_iconst M dL_law_333 ?_
    exact rw_ret MW dL_law_334
  · intro turn ht hP S hL hn c5 c6 c7 c8
    refine r_iload M dL_law_21 rfl ?_
    refine r_bipush M dL_law_23 rfl ?_
    refine r_icmp_ge M dL_law_25 (tgt := 333) rfl (by omega) (fun b25 => by omega) (fun b25 => ?_)
    refine r_xload_n M dL_law_28 rfl ?_
    refine r_iconst M dL_law_29 ?_
    refine r_iload M dL_law_30 rfl ?_
    refine r_imul M dL_law_32 ?_
    refine rw_cell MW (by omega) (by omega) dL_law_33 (Nat.le_of_ble_eq_true rfl) (fun c33 => ?_)
    refine r_ldc M dL_law_36 kc_L_79 (z := 2147483647) rfl ?_
    refine r_iand M dL_law_38 (fun x38 hx38 => ?_)
    refine r_istore_5 M dL_law_39 (by decide) rfl ?_
    refine r_xload_n M dL_law_41 rfl ?_
    refine r_iconst M dL_law_42 ?_
    refine r_iload M dL_law_43 rfl ?_
    refine r_imul M dL_law_45 ?_
    refine r_iconst M dL_law_46 ?_
    refine r_iadd M dL_law_47 ?_
    refine rw_cell MW (by omega) (by omega) dL_law_48 (Nat.le_of_ble_eq_true rfl) (fun c48 => ?_)
    refine r_ldc M dL_law_51 kc_L_79 (z := 2147483647) rfl ?_
    refine r_iand M dL_law_53 (fun x53 hx53 => ?_)
    refine r_istore_6 M dL_law_54 (by decide) rfl ?_
    skip
    -- behind capital and size
    have h231 : ∀ (k n' : Nat) (S' : St) (c9 : Option AV), n' ≤ 1100 * turn + 90 → LI turn S' → (k : Int) < S' 0 0 3 → K n' 231 [some (vX b), some (vR 0 0), some (vR 11 0), some (vR 12 0), some (vI (turn : Int)), some (vI x38), some (vI x53), some (vI (k : Int)), c9] [] S' := by
      intro k n' S' c9 hn' hL' hk
      have hc9 := hL'.1.ci.cnt
      refine r_aload_n M dL_law_231 rfl ?_
      refine r_iload M dL_law_232 rfl ?_
      refine r_bipush M dL_law_234 rfl ?_
      refine r_ishr M dL_law_236 (fun x236 hx236 => ?_)
      refine r_sipush M dL_law_237 rfl ?_
      refine rk_callS2 M dL_law_240 sl_L_55 st_L_at rfl ck_L_55 ⟨by omega, by omega, by omega⟩ (Nat.le_of_ble_eq_true rfl) (cn_at (by omega) (fun z hz => ?_))
      refine rk_callV1 M dL_law_243 ck_L_98 vk_X3_setCapital ⟨by omega, by omega, by omega⟩ ⟨by decide, by decide, rfl⟩ (by decide) (Nat.le_of_ble_eq_true rfl) (cs_setCapital (by omega) ?_)
      refine r_pop M dL_law_246 ?_
      have hLc := hL'.cap (v := z) (by omega)
      have hkc : (k : Int) < up3 S' 0 0 4 z 0 0 3 := hk
      generalize up3 S' 0 0 4 z = S1 at *
      have hLs := hLc.sz.sz
      have hks : (k : Int) < szS (szS S1) 0 0 3 := hkc
      refine r_aload_n M dL_law_247 rfl ?_
      refine rk_callS1 M dL_law_248 sl_L_101 st_L_sizes rfl ck_L_101 ⟨by omega, by omega, by omega⟩ (Nat.le_of_ble_eq_true rfl) (cn_sizes hLc.1.ci (hLc.1.ar (by omega)) hLc.2 ?_)
      refine r_if_ne M dL_law_251 (tgt := 256) rfl (by omega) (fun b251 => ?_) (fun b251 => by omega)
      generalize szS (szS S1) = S2 at *
      have hI2 := hLs.1.ci
      have hm := hI2.mem (show k < 10 by omega)
      unfold MI at hm
      refine r_aload_n M dL_law_256 rfl ?_
      refine r_iload M dL_law_257 rfl ?_
      refine rk_callV1 M dL_law_259 ck_L_33 vk_X3_state ⟨by omega, by omega, by omega⟩ ⟨by decide, by decide, rfl⟩ (by decide) (Nat.le_of_ble_eq_true rfl) (cs_state hI2 hks rfl ?_)
      refine r_iconst M dL_law_262 ?_
      refine r_icmp_gt M dL_law_263 (tgt := 327) rfl (by omega) (fun b263 => ?_) (fun b263 => ?_)
      · refine r_iinc_4 M (_) dL_law_327 rfl (by decide) rfl ?_
        refine r_goto M dL_law_330 (tgt := 21) rfl ?_
        first | exact k_w M (by omega) (by omega) (hP _ hL5 (fun _ => by omega) _ _ _ _) | exact k_w M (by omega) (by omega) (hP _ hLs.suc (fun _ => by omega) _ _ _ _)
      refine r_iload M dL_law_266 rfl ?_
      refine r_iconst M dL_law_268 ?_
      refine rk_callS2 M dL_law_269 sl_L_55 st_L_at rfl ck_L_55 ⟨by omega, by omega, by omega⟩ (Nat.le_of_ble_eq_true rfl) (cn_at (by omega) (fun z2 hz2 => ?_))
      refine r_if_ne M dL_law_272 (tgt := 278) rfl (by omega) (fun b272 => ?_) (fun b272 => ?_)
      · refine r_aload_n M dL_law_278 rfl ?_
        refine r_iload M dL_law_279 rfl ?_
        refine r_iconst M dL_law_281 ?_
        refine r_iload M dL_law_282 rfl ?_
        refine r_bipush M dL_law_284 rfl ?_
        refine r_ishr M dL_law_286 (fun x286 hx286 => ?_)
        refine r_bipush M dL_law_287 rfl ?_
        refine rk_callS2 M dL_law_289 sl_L_55 st_L_at rfl ck_L_55 ⟨by omega, by omega, by omega⟩ (Nat.le_of_ble_eq_true rfl) (cn_at (by omega) (fun z3 hz3 => ?_))
        refine r_iadd M dL_law_292 ?_
        refine rk_callS3 M dL_law_293 sl_L_105 st_L_fails rfl ck_L_105 ⟨by omega, by omega, by omega⟩ (Nat.le_of_ble_eq_true rfl) (cn_fails hLs hks (by omega) (by unfold actv; omega) (fun bk S3 hF3 hB3 h33 => ?_))
        refine r_istore_8 M dL_law_296 (by decide) rfl ?_
        refine r_iload M dL_law_298 rfl ?_
        refine r_if_ge M dL_law_300 (tgt := 305) rfl (by have := hF3.2.2.2.2.2.2; omega) (fun b300 => ?_) (fun b300 => by have := hF3.2.2.2.2.2.2; omega)
        refine r_aload_n M dL_law_305 rfl ?_
        refine r_iload M dL_law_306 rfl ?_
        refine r_iload M dL_law_308 rfl ?_
        refine r_iload M dL_law_310 rfl ?_
        refine rk_callS4 M dL_law_312 sl_L_109 st_L_bids rfl ck_L_109 ⟨by omega, by omega, by omega⟩ (Nat.le_of_ble_eq_true rfl) (cn_bids hF3 hB3 (fun S4 hF4 h34 => ?_))
        refine r_aload_n M dL_law_315 rfl ?_
        refine r_iload M dL_law_316 rfl ?_
        refine r_aload_n M dL_law_318 rfl ?_
        refine rk_callS3 M dL_law_319 sl_L_113 st_L_ends rfl ck_L_113 ⟨by omega, by omega, by omega⟩ (Nat.le_of_ble_eq_true rfl) (cn_ends hF4 (by omega) (fun S5 hL5 h35 => ?_))
        refine r_if_ne M dL_law_322 (tgt := 327) rfl (by omega) (fun b322 => ?_) (fun b322 => by omega)
        refine r_iinc_4 M (_) dL_law_327 rfl (by decide) rfl ?_
        refine r_goto M dL_law_330 (tgt := 21) rfl ?_
        first | exact k_w M (by omega) (by omega) (hP _ hL5 (fun _ => by omega) _ _ _ _) | exact k_w M (by omega) (by omega) (hP _ hLs.suc (fun _ => by omega) _ _ _ _)
      refine r_goto M dL_law_275 (tgt := 327) rfl ?_
      refine r_iinc_4 M (_) dL_law_327 rfl (by decide) rfl ?_
      refine r_goto M dL_law_330 (tgt := 21) rfl ?_
      first | exact k_w M (by omega) (by omega) (hP _ hL5 (fun _ => by omega) _ _ _ _) | exact k_w M (by omega) (by omega) (hP _ hLs.suc (fun _ => by omega) _ _ _ _)
    have h133 : ∀ (n' : Nat) (S' : St) (c7 c8 : Option AV), n' ≤ 1100 * turn + 4 → LI turn S' → 1 ≤ S' 0 0 3 → K n' 133 [some (vX b), some (vR 0 0), some (vR 11 0), some (vR 12 0), some (vI (turn : Int)), some (vI x38), some (vI x53), c7, c8] [] S' := by
      intro n' S' c7 c8 hn' hL' h1
      refine r_aload_n M dL_law_133 rfl ?_
      refine r_iload M dL_law_134 rfl ?_
      refine r_iload M dL_law_136 rfl ?_
      refine r_aload_n M dL_law_138 rfl ?_
      refine rk_callS4 M dL_law_139 sl_L_84 st_L_clients rfl ck_L_84 ⟨by omega, by omega, by omega⟩ (Nat.le_of_ble_eq_true rfl) (cn_clients hL' (fun S1 hL1 h31 => ?_))
      refine r_if_ne M dL_law_142 (tgt := 147) rfl (by omega) (fun b142 => ?_) (fun b142 => by omega)
      have hI1 := hL1.1.ci
      have hc1 := hI1.cnt
      refine r_iload M dL_law_147 rfl ?_
      refine r_iconst M dL_law_149 ?_
      refine r_ishr M dL_law_150 (fun x150 hx150 => ?_)
      refine r_aload_n M dL_law_151 rfl ?_
      refine rk_callV0 M dL_law_152 ck_L_14 vk_X3_members ⟨by omega, by omega, by omega⟩ ⟨by decide, by decide, rfl⟩ (by decide) (Nat.le_of_ble_eq_true rfl) (cs_members rfl ?_)
      refine rk_callS2 M dL_law_155 sl_L_55 st_L_at rfl ck_L_55 ⟨by omega, by omega, by omega⟩ (Nat.le_of_ble_eq_true rfl) (cn_at (by omega) (fun z hz => ?_))
      obtain ⟨k, rfl⟩ : ∃ k : Nat, z = k := ⟨z.toNat, by omega⟩
      have hm := hI1.mem (show k < 10 by omega)
      unfold MI at hm
      refine r_istore_7 M dL_law_158 (by decide) rfl ?_
      refine r_aload_n M dL_law_160 rfl ?_
      refine r_iload M dL_law_161 rfl ?_
      refine rk_callV1 M dL_law_163 ck_L_33 vk_X3_state ⟨by omega, by omega, by omega⟩ ⟨by decide, by decide, rfl⟩ (by decide) (Nat.le_of_ble_eq_true rfl) (cs_state hI1 (by omega) rfl ?_)
      refine r_iconst M dL_law_166 ?_
      refine r_icmp_ge M dL_law_167 (tgt := 231) rfl (by omega) (fun b167 => ?_) (fun b167 => ?_)
      · exact h231 k _ _ _ (by omega) hL1 (by omega)
      refine r_aload_n M dL_law_170 rfl ?_
      refine r_iload M dL_law_171 rfl ?_
      refine r_iload M dL_law_173 rfl ?_
      refine r_iconst M dL_law_175 ?_
      refine r_ishr M dL_law_176 (fun x176 hx176 => ?_)
      refine r_sipush M dL_law_177 rfl ?_
      refine rk_callS2 M dL_law_180 sl_L_55 st_L_at rfl ck_L_55 ⟨by omega, by omega, by omega⟩ (Nat.le_of_ble_eq_true rfl) (cn_at (by omega) (fun z2 hz2 => ?_))
      refine rk_callV2 M dL_law_183 ck_L_88 vk_X3_setGain ⟨by omega, by omega, by omega⟩ ⟨by decide, by decide, rfl⟩ (by decide) (Nat.le_of_ble_eq_true rfl) (cs_setGain hI1 (by omega) (by omega) (by unfold actv; omega) ?_)
      refine r_pop M dL_law_186 ?_
      have hLg := hL1.set (j := k) (f := 7) (v := z2) (Or.inl ⟨rfl, by omega⟩)
      have hag : actv (up3 S1 4 k 7 z2) k := by unfold actv; rw [up3_k (by omega)]; omega
      have hkg : (k : Int) < up3 S1 4 k 7 z2 0 0 3 := by show (k : Int) < S1 0 0 3; omega
      generalize up3 S1 4 k 7 z2 = S2 at *
      refine r_aload_n M dL_law_187 rfl ?_
      refine r_iload M dL_law_188 rfl ?_
      refine r_iload M dL_law_190 rfl ?_
      refine r_iconst M dL_law_192 ?_
      refine r_ishr M dL_law_193 (fun x193 hx193 => ?_)
      refine r_sipush M dL_law_194 rfl ?_
      refine rk_callS2 M dL_law_197 sl_L_55 st_L_at rfl ck_L_55 ⟨by omega, by omega, by omega⟩ (Nat.le_of_ble_eq_true rfl) (cn_at (by omega) (fun z3 hz3 => ?_))
      refine rk_callV2 M dL_law_200 ck_L_91 vk_X3_setTested ⟨by omega, by omega, by omega⟩ ⟨by decide, by decide, rfl⟩ (by decide) (Nat.le_of_ble_eq_true rfl) (cs_setTested hLg.1.ci hkg (by omega) hag ?_)
      refine r_pop M dL_law_203 ?_
      have hLt := hLg.set (j := k) (f := 8) (v := z3) (Or.inr (Or.inl ⟨rfl, by omega⟩))
      have hkt : (k : Int) < up3 S2 4 k 8 z3 0 0 3 := hkg
      generalize up3 S2 4 k 8 z3 = S3 at *
      have hm3 := hLt.1.ci.mem (show k < 10 by omega)
      unfold MI at hm3
      refine r_iload M dL_law_204 rfl ?_
      refine r_bipush M dL_law_206 rfl ?_
      refine r_ishr M dL_law_208 (fun x208 hx208 => ?_)
      refine r_iconst M dL_law_209 ?_
      refine rk_callS2 M dL_law_210 sl_L_55 st_L_at rfl ck_L_55 ⟨by omega, by omega, by omega⟩ (Nat.le_of_ble_eq_true rfl) (cn_at (by omega) (fun z4 hz4 => ?_))
      refine r_if_ne M dL_law_213 (tgt := 231) rfl (by omega) (fun b213 => ?_) (fun b213 => ?_)
      · first | exact h231 k _ _ _ (by omega) hLt hkt | exact h231 k _ _ _ (by omega) (hLt.set (j := k) (f := 3) (v := 1) (Or.inr (Or.inr ⟨rfl, by omega, by omega⟩))) hkt
      refine r_aload_n M dL_law_216 rfl ?_
      refine r_iload M dL_law_217 rfl ?_
      refine rk_callV1 M dL_law_219 ck_L_33 vk_X3_state ⟨by omega, by omega, by omega⟩ ⟨by decide, by decide, rfl⟩ (by decide) (Nat.le_of_ble_eq_true rfl) (cs_state hLt.1.ci hkt rfl ?_)
      refine r_if_ne M dL_law_222 (tgt := 231) rfl (by omega) (fun b222 => ?_) (fun b222 => ?_)
      · first | exact h231 k _ _ _ (by omega) hLt hkt | exact h231 k _ _ _ (by omega) (hLt.set (j := k) (f := 3) (v := 1) (Or.inr (Or.inr ⟨rfl, by omega, by omega⟩))) hkt
      refine r_aload_n M dL_law_225 rfl ?_
      refine r_iload M dL_law_226 rfl ?_
      refine rk_callV1 M dL_law_228 ck_L_94 vk_X3_giveNotice ⟨by omega, by omega, by omega⟩ ⟨by decide, by decide, rfl⟩ (by decide) (Nat.le_of_ble_eq_true rfl) (cs_giveNotice hLt.1.ci hkt (by omega) hLt.2 ?_)
      first | exact h231 k _ _ _ (by omega) hLt hkt | exact h231 k _ _ _ (by omega) (hLt.set (j := k) (f := 3) (v := 1) (Or.inr (Or.inr ⟨rfl, by omega, by omega⟩))) hkt
    have hI := hL.1.ci
    have hc := hI.cnt
    obtain ⟨j, hj⟩ : ∃ j : Nat, S 0 0 3 = j := ⟨(S 0 0 3).toNat, by omega⟩
    refine r_aload_n M dL_law_56 rfl ?_
    refine rk_callV0 M dL_law_57 ck_L_14 vk_X3_members ⟨by omega, by omega, by omega⟩ ⟨by decide, by decide, rfl⟩ (by decide) (Nat.le_of_ble_eq_true rfl) (cs_members hj ?_)
    refine r_bipush M dL_law_60 rfl ?_
    refine r_icmp_ge M dL_law_62 (tgt := 133) rfl (by omega) (fun b62 => ?_) (fun b62 => ?_)
    · first | exact h133 _ _ _ _ (by omega) hL (by omega) | exact h133 _ _ _ _ (by omega) (hL.join hj (by omega) (by omega) (by omega) (by omega)) (by show (1 : Int) ≤ (j : Int) + 1; omega)
    refine r_iload M dL_law_65 rfl ?_
    refine r_iconst M dL_law_67 ?_
    refine r_icmp_lt M dL_law_68 (tgt := 80) rfl (by omega) (fun b68 => ?_) (fun b68 => ?_)
    · refine r_aload_n M dL_law_80 rfl ?_
      refine rk_callV0 M dL_law_81 ck_L_14 vk_X3_members ⟨by omega, by omega, by omega⟩ ⟨by decide, by decide, rfl⟩ (by decide) (Nat.le_of_ble_eq_true rfl) (cs_members hj ?_)
      refine r_istore_7 M dL_law_84 (by decide) rfl ?_
      refine r_aload_n M dL_law_86 rfl ?_
      refine r_iload M dL_law_87 rfl ?_
      refine r_iload M dL_law_89 rfl ?_
      refine r_iconst M dL_law_91 ?_
      refine r_ishr M dL_law_92 (fun x92 hx92 => ?_)
      refine r_bipush M dL_law_93 rfl ?_
      refine rk_callS2 M dL_law_95 sl_L_55 st_L_at rfl ck_L_55 ⟨by omega, by omega, by omega⟩ (Nat.le_of_ble_eq_true rfl) (cn_at (by omega) (fun z2 hz2 => ?_))
      refine r_iast M (j) dL_law_98 ⟨rfl, by decide⟩ (by decide) rfl (show (_ : Nat) < 10 by omega) (Nat.le_of_ble_eq_true rfl) ?_
      refine r_aload_n M dL_law_99 rfl ?_
      refine r_iload M dL_law_100 rfl ?_
      refine r_sipush M dL_law_102 rfl ?_
      refine rk_callS2 M dL_law_105 sl_L_55 st_L_at rfl ck_L_55 ⟨by omega, by omega, by omega⟩ (Nat.le_of_ble_eq_true rfl) (cn_at (by omega) (fun z3 hz3 => ?_))
      refine r_iload M dL_law_108 rfl ?_
      refine r_bipush M dL_law_110 rfl ?_
      refine r_ishr M dL_law_112 (fun x112 hx112 => ?_)
      refine r_sipush M dL_law_113 rfl ?_
      refine rk_callS2 M dL_law_116 sl_L_55 st_L_at rfl ck_L_55 ⟨by omega, by omega, by omega⟩ (Nat.le_of_ble_eq_true rfl) (cn_at (by omega) (fun z4 hz4 => ?_))
      refine r_aload_n M dL_law_119 rfl ?_
      refine r_iload M dL_law_120 rfl ?_
      refine r_ialdV M (j) dL_law_122 ⟨rfl, by decide⟩ (by decide) rfl (show (_ : Nat) < 10 by omega) (Nat.le_of_ble_eq_true rfl) (z2) (by exact up3_at) ?_
      refine rk_callV3 M dL_law_123 ck_L_80 vk_X3_addMember ⟨by omega, by omega, by omega⟩ ⟨by decide, by decide, rfl⟩ (by decide) (Nat.le_of_ble_eq_true rfl) (cs_addMember (CI_cong (fun t' q => up3_t (by omega)) hI) hj (by omega) (by omega) (by omega) (by omega) ?_)
      refine r_iload M dL_law_126 rfl ?_
      refine r_icmp_eq M dL_law_128 (tgt := 133) rfl (by omega) (fun b128 => ?_) (fun b128 => by omega)
      first | exact h133 _ _ _ _ (by omega) hL (by omega) | exact h133 _ _ _ _ (by omega) (hL.join hj (by omega) (by omega) (by omega) (by omega)) (by show (1 : Int) ≤ (j : Int) + 1; omega)
    refine r_iload M dL_law_71 rfl ?_
    refine r_iconst M dL_law_73 ?_
    refine rk_callS2 M dL_law_74 sl_L_55 st_L_at rfl ck_L_55 ⟨by omega, by omega, by omega⟩ (Nat.le_of_ble_eq_true rfl) (cn_at (by omega) (fun z hz => ?_))
    refine r_if_ne M dL_law_77 (tgt := 133) rfl (by omega) (fun b77 => ?_) (fun b77 => ?_)
    · first | exact h133 _ _ _ _ (by omega) hL (by omega) | exact h133 _ _ _ _ (by omega) (hL.join hj (by omega) (by omega) (by omega) (by omega)) (by show (1 : Int) ≤ (j : Int) + 1; omega)
    refine r_aload_n M dL_law_80 rfl ?_
    refine rk_callV0 M dL_law_81 ck_L_14 vk_X3_members ⟨by omega, by omega, by omega⟩ ⟨by decide, by decide, rfl⟩ (by decide) (Nat.le_of_ble_eq_true rfl) (cs_members hj ?_)
    refine r_istore_7 M dL_law_84 (by decide) rfl ?_
    refine r_aload_n M dL_law_86 rfl ?_
    refine r_iload M dL_law_87 rfl ?_
    refine r_iload M dL_law_89 rfl ?_
    refine r_iconst M dL_law_91 ?_
    refine r_ishr M dL_law_92 (fun x92 hx92 => ?_)
    refine r_bipush M dL_law_93 rfl ?_
    refine rk_callS2 M dL_law_95 sl_L_55 st_L_at rfl ck_L_55 ⟨by omega, by omega, by omega⟩ (Nat.le_of_ble_eq_true rfl) (cn_at (by omega) (fun z2 hz2 => ?_))
    refine r_iast M (j) dL_law_98 ⟨rfl, by decide⟩ (by decide) rfl (show (_ : Nat) < 10 by omega) (Nat.le_of_ble_eq_true rfl) ?_
    refine r_aload_n M dL_law_99 rfl ?_
    refine r_iload M dL_law_100 rfl ?_
    refine r_sipush M dL_law_102 rfl ?_
    refine rk_callS2 M dL_law_105 sl_L_55 st_L_at rfl ck_L_55 ⟨by omega, by omega, by omega⟩ (Nat.le_of_ble_eq_true rfl) (cn_at (by omega) (fun z3 hz3 => ?_))
    refine r_iload M dL_law_108 rfl ?_
    refine r_bipush M dL_law_110 rfl ?_
    refine r_ishr M dL_law_112 (fun x112 hx112 => ?_)
    refine r_sipush M dL_law_113 rfl ?_
    refine rk_callS2 M dL_law_116 sl_L_55 st_L_at rfl ck_L_55 ⟨by omega, by omega, by omega⟩ (Nat.le_of_ble_eq_true rfl) (cn_at (by omega) (fun z4 hz4 => ?_))
    refine r_aload_n M dL_law_119 rfl ?_
    refine r_iload M dL_law_120 rfl ?_
    refine r_ialdV M (j) dL_law_122 ⟨rfl, by decide⟩ (by decide) rfl (show (_ : Nat) < 10 by omega) (Nat.le_of_ble_eq_true rfl) (z2) (by exact up3_at) ?_
    refine rk_callV3 M dL_law_123 ck_L_80 vk_X3_addMember ⟨by omega, by omega, by omega⟩ ⟨by decide, by decide, rfl⟩ (by decide) (Nat.le_of_ble_eq_true rfl) (cs_addMember (CI_cong (fun t' q => up3_t (by omega)) hI) hj (by omega) (by omega) (by omega) (by omega) ?_)
    refine r_iload M dL_law_126 rfl ?_
    refine r_icmp_eq M dL_law_128 (tgt := 133) rfl (by omega) (fun b128 => ?_) (fun b128 => by omega)
    first | exact h133 _ _ _ _ (by omega) hL (by omega) | exact h133 _ _ _ _ (by omega) (hL.join hj (by omega) (by omega) (by omega) (by omega)) (by show (1 : Int) ≤ (j : Int) + 1; omega)
end LAW
