/-! ===== ends: the law's check of a closing ===== -/
theorem r_istore_13 {g : Gl} {own : String} {cc : ByteArray} {nL fr lo N : Nat} {K : KT} {n pc : Nat} {st : List AV} {S : St} (M : Mk g own cc nL fr lo N K) {a0 a1 a2 a3 a4 a5 a6 a7 a8 a9 a10 a11 a12 w : Option AV} {T : List (Option AV)} {x : Int} (d : decode cc pc = .ok (.istore 13, 2)) (hj : 13 < nL) (hs : stOK (a0 :: a1 :: a2 :: a3 :: a4 :: a5 :: a6 :: a7 :: a8 :: a9 :: a10 :: a11 :: a12 :: w :: T) 13 = true) (kk : K n (pc + 2) (a0 :: a1 :: a2 :: a3 :: a4 :: a5 :: a6 :: a7 :: a8 :: a9 :: a10 :: a11 :: a12 :: some (vI x) :: T) st S) : K n pc (a0 :: a1 :: a2 :: a3 :: a4 :: a5 :: a6 :: a7 :: a8 :: a9 :: a10 :: a11 :: a12 :: w :: T) (vI x :: st) S := r_istoreG M d hj hs rfl kk
def snV (S : St) (k : Nat) : Int := if k < 10 then S 4 k 5 else if k < 20 then S 4 (k - 10) 7 else if k < 30 then S 4 (k - 20) 10 else if k < 40 then S 4 (k - 30) 3 else S 4 (k - 40) 11
def snS (S : St) (l : Nat) : St := fun t i k => if t = 11 ∧ i = 0 ∧ k < 50 ∧ k % 10 < l then snV S k else S t i k
theorem snS_0 (S : St) : snS S 0 = S := by
  funext t i k
  exact if_neg (fun q => by omega)
theorem snS_t {S : St} {l t : Nat} (h : t ≠ 11) : snS S l t = S t := by
  funext i k
  exact if_neg (fun q => h q.1)
theorem snS_at (S : St) (l k : Nat) : snS S l 11 0 k = if k < 50 ∧ k % 10 < l then snV S k else S 11 0 k := by
  by_cases q : k < 50 ∧ k % 10 < l
  · rw [if_pos q]
    exact if_pos ⟨rfl, rfl, q⟩
  · rw [if_neg q]
    exact if_neg (fun z => q z.2.2)
theorem snV_5 (S : St) {k : Nat} (h : k < 10) : snV S k = S 4 k 5 := by
  unfold snV
  rw [if_pos h]
theorem snV_7 (S : St) {k : Nat} (h : k < 10) : snV S (10 + k) = S 4 k 7 := by
  unfold snV
  rw [if_neg (by omega), if_pos (by omega), show 10 + k - 10 = k by omega]
theorem snV_10 (S : St) {k : Nat} (h : k < 10) : snV S (20 + k) = S 4 k 10 := by
  unfold snV
  rw [if_neg (by omega), if_neg (by omega), if_pos (by omega), show 20 + k - 20 = k by omega]
theorem snV_3 (S : St) {k : Nat} (h : k < 10) : snV S (30 + k) = S 4 k 3 := by
  unfold snV
  rw [if_neg (by omega), if_neg (by omega), if_neg (by omega), if_pos (by omega), show 30 + k - 30 = k by omega]
theorem snV_11 (S : St) {k : Nat} (h : k < 10) : snV S (40 + k) = S 4 k 11 := by
  unfold snV
  rw [if_neg (by omega), if_neg (by omega), if_neg (by omega), if_neg (by omega), show 40 + k - 40 = k by omega]
theorem snS_s (S : St) {l : Nat} (hl : l < 10) : up3 (up3 (up3 (up3 (up3 (snS S l) 11 0 l (S 4 l 5)) 11 0 (10 + l) (S 4 l 7)) 11 0 (20 + l) (S 4 l 10)) 11 0 (30 + l) (S 4 l 3)) 11 0 (40 + l) (S 4 l 11) = snS S (l + 1) := by
  funext t i k
  by_cases q : t = 11 ∧ i = 0
  · obtain ⟨rfl, rfl⟩ := q
    rw [snS_at]
    by_cases k4 : k = 40 + l
    · subst k4
      rw [up3_at, if_pos (by omega), snV_11 S hl]
    · rw [up3_k k4]
      by_cases k3 : k = 30 + l
      · subst k3
        rw [up3_at, if_pos (by omega), snV_3 S hl]
      · rw [up3_k k3]
        by_cases k2 : k = 20 + l
        · subst k2
          rw [up3_at, if_pos (by omega), snV_10 S hl]
        · rw [up3_k k2]
          by_cases k1 : k = 10 + l
          · subst k1
            rw [up3_at, if_pos (by omega), snV_7 S hl]
          · rw [up3_k k1]
            by_cases k0 : k = l
            · subst k0
              rw [up3_at, if_pos (by omega), snV_5 S hl]
            · rw [up3_k k0, snS_at]
              by_cases q2 : k < 50 ∧ k % 10 < l
              · rw [if_pos q2, if_pos (by omega)]
              · rw [if_neg q2, if_neg (by omega)]
  · have e1 : ∀ (X : St) (j : Nat) (v : Int), up3 X 11 0 j v t i k = X t i k := fun X j v => if_neg (fun z => q ⟨z.1, z.2.1⟩)
    rw [e1, e1, e1, e1, e1]
    exact (if_neg (fun z => q ⟨z.1, z.2.1⟩)).trans (if_neg (fun z => q ⟨z.1, z.2.1⟩)).symm
theorem LF.cong {t f : Nat} {b : Int} {S S' : St} (h : LF t f b S) (hT : ∀ t', t' ≠ 11 → S' t' = S t') : LF t f b S' := by
  obtain ⟨hB, h1, h2, h3, h4, h5, h6⟩ := h
  refine ⟨hB.gen (CI_cong (fun t' ht => hT t' (by omega)) hB.ci) (by rw [hT 0 (by omega)]) (hT 5 (by omega)) (fun i => by rw [hT 4 (by omega)]; exact ⟨rfl, rfl, rfl, rfl⟩) (Z8_cong hB.z8 (hT 8 (by omega)) (by rw [hT 0 (by omega)])) (hT 12 (by omega)) (by rw [hT 0 (by omega)]), by rw [hT 0 (by omega)]; exact h1, by rw [hT 0 (by omega)]; exact h2, by rw [hT 4 (by omega)]; exact h3, fun i hi => ?_, by rw [hT 2 (by omega)]; exact h5, h6⟩
  have hn : cN S' = cN S := by
    unfold cN
    rw [hT 0 (by omega)]
  rw [hn] at hi
  rw [hT 4 (by omega)]
  exact h4 i hi
def goN (S : St) : Nat → Int
  | 0 => 0
  | l + 1 => if S 4 l 3 = 1 then 1 else goN S l
theorem goN_rng (S : St) : ∀ l, goN S l = 0 ∨ goN S l = 1
  | 0 => Or.inl rfl
  | l + 1 => by
    have h := goN_rng S l
    unfold goN
    split
    · exact Or.inr rfl
    · exact h
theorem goN_z {S : St} : ∀ {l : Nat}, goN S l = 0 → ∀ k, k < l → S 4 k 3 ≠ 1
  | l + 1, h, k, hk => by
    unfold goN at h
    split at h
    · omega
    · by_cases e : k = l
      · subst e; assumption
      · exact goN_z h k (by omega)
def eatD (S : St) (P Q R : Nat → Int) (k : Nat) : Int := Q k + (if S 4 k 3 = 0 then P k + R k else 0)
section EATD
variable {S : St} {P Q R : Nat → Int}
theorem eatD_le : ∀ n, (∀ k, k < n → 0 ≤ P k ∧ 0 ≤ Q k ∧ 0 ≤ R k) → 0 ≤ smN (eatD S P Q R) n ∧ smN (eatD S P Q R) n ≤ smN Q n + smN P n + smN R n
  | 0, _ => ⟨Int.le_refl _, by show (0 : Int) ≤ 0 + 0 + 0; omega⟩
  | n + 1, h => by
    have ih := eatD_le n (fun k hk => h k (by omega))
    have h1 := h n (by omega)
    show 0 ≤ smN (eatD S P Q R) n + (Q n + (if S 4 n 3 = 0 then P n + R n else 0)) ∧ smN (eatD S P Q R) n + (Q n + (if S 4 n 3 = 0 then P n + R n else 0)) ≤ smN Q n + Q n + (smN P n + P n) + (smN R n + R n)
    split <;> omega
theorem eatD_eq : ∀ n, (∀ k, k < n → S 4 k 3 ≠ 0 → P k = 0 ∧ R k = 0) → smN (eatD S P Q R) n = smN Q n + smN P n + smN R n
  | 0, _ => rfl
  | n + 1, h => by
    have ih := eatD_eq n (fun k hk => h k (by omega))
    have h1 := h n (by omega)
    show smN (eatD S P Q R) n + (Q n + (if S 4 n 3 = 0 then P n + R n else 0)) = smN Q n + Q n + (smN P n + P n) + (smN R n + R n)
    split
    · omega
    · rename_i q
      have := h1 q
      omega
end EATD
section XEnds
variable {g : Gl} {S : St} {Ret : Option AV → St → Prop} {Thr : String → St → Prop} {t f : Nat} {b : Int}
theorem cs_close (hI : CI S) (h7 : S 0 0 7 = (f : Int)) (hf : f < 10) (h : Ret (some (vI (ea4 (cl1 S) f).2)) (clS S f)) : Cn g yX3_close cX3_close 2 (some .int) 6 143 1 [vR 0 0] S Ret Thr := by
  refine cn_close hI (fun i ei hi => ?_) (fun q => by omega)
  have e : i = f := by omega
  subst e
  exact h
theorem cn_ends (hL : LF t f b S) (ht : t ≤ 20) (h : ∀ S', LI (t + 1) S' → S' 0 0 3 = S 0 0 3 → Ret (some (vI 1)) S') : Cn g yL_ends cL_ends 14 (some .boolean) 10 172 220 [vR 0 0, vI b, vR 11 0] S Ret Thr := by
  refine enter (L := [some (vR 0 0), some (vI b), some (vR 11 0), none, none, none, none, none, none, none, none, none, none, none]) (by decide +kernel) (Nat.le_of_ble_eq_true rfl) rfl (fun K MM => ?_)
  have M := MM.mk
  have hI := hL.1.ci
  have hcl := cN_le hI
  have hce := cN_eq hI
  have h7 := hL.2.1
  have hfc := hL.2.2.1
  have hbr := hL.2.2.2.2.2.2
  have hbd := hL.1.bd.2
  have hcap := hI.2.1
  have hT : ∀ l t', t' ≠ 11 → snS S l t' = S t' := fun l t' q => snS_t q
  have hIs : ∀ l, CI (snS S l) := fun l => CI_cong (fun t' q => hT l t' (by omega)) hI
  refine r_aload_n M dL_ends_0 rfl ?_
  refine r_callV0 MM dL_ends_1 ck_L_27 vk_X3_failing ⟨by omega, by omega, by omega⟩ ⟨by decide, by decide, rfl⟩ (by decide) (Nat.le_of_ble_eq_true rfl) (cs_failing h7 ?_)
  refine r_istore_3 M dL_ends_4 (by decide) rfl ?_
  refine r_aload_n M dL_ends_5 rfl ?_
  refine r_callV0 MM dL_ends_6 ck_L_30 vk_X3_uncovered ⟨by omega, by omega, by omega⟩ ⟨by decide, by decide, rfl⟩ (by decide) (Nat.le_of_ble_eq_true rfl) (cs_uncovered rfl ?_)
  refine r_istore_4 M dL_ends_9 (by decide) rfl ?_
  refine r_aload_n M dL_ends_11 rfl ?_
  refine r_callV0 MM dL_ends_12 ck_L_8 vk_X3_capital ⟨by omega, by omega, by omega⟩ ⟨by decide, by decide, rfl⟩ (by decide) (Nat.le_of_ble_eq_true rfl) (cs_capital rfl ?_)
  refine r_istore_5 M dL_ends_15 (by decide) rfl ?_
  refine r_iconst M dL_ends_17 ?_
  refine r_istore_6 M dL_ends_18 (by decide) rfl ?_
  refine k_S (S1 := snS S 0) ?_ (snS_0 S).symm
  refine fz (P := fun l => K (5 * l) 20 [some (vR 0 0), some (vI b), some (vR 11 0), some (vI (f : Int)), some (vI (S 0 0 6)), some (vI (S 0 0 4)), some (vI (l : Int)), none, none, none, none, none, none, none] [] (snS S l)) (m := cN S) ?_ ?_
  · obtain ⟨C, hCd⟩ : ∃ C, C = snS S (cN S) := ⟨_, rfl⟩
    have hC : ∀ t', t' ≠ 11 → C t' = S t' := fun t' q => by rw [hCd]; exact hT _ t' q
    have hLC : LF t f b C := hL.cong hC
    have hIC := hLC.1.ci
    have e0 : C 0 = S 0 := hC 0 (by omega)
    have e4 : C 4 = S 4 := hC 4 (by omega)
    have hca := close_all hLC
    have hnC : cN C = cN S := by unfold cN; rw [e0]
    rw [hnC] at hca
    unfold actv at hca
    rw [e0, e4] at hca
    have h11 : ∀ k, k < 50 → k % 10 < cN S → clS C f 11 0 k = snV S k := fun k hk hk2 => by
      rw [cls_t (by omega) (by omega) (by omega) (by omega) (by omega), hCd, snS_at, if_pos ⟨hk, hk2⟩]
    refine k_S (S1 := C) ?_ hCd.symm
    have h3C : C 0 0 3 = S 0 0 3 := by rw [e0]
    refine r_iload M dL_ends_20 rfl ?_
    refine r_aload_n M dL_ends_22 rfl ?_
    refine r_callV0 MM dL_ends_23 ck_L_14 vk_X3_members ⟨by omega, by omega, by omega⟩ ⟨by decide, by decide, rfl⟩ (by decide) (Nat.le_of_ble_eq_true rfl) (cs_members h3C ?_)
    refine r_icmp_ge M dL_ends_26 (tgt := 97) rfl (by omega) (fun b26 => ?_) (fun b26 => by omega)
    refine r_aload_n M dL_ends_97 rfl ?_
    refine r_iload_n M dL_ends_98 rfl ?_
    refine r_callV1 MM dL_ends_99 ck_L_39 vk_X3_margin ⟨by omega, by omega, by omega⟩ ⟨by decide, by decide, rfl⟩ (by decide) (Nat.le_of_ble_eq_true rfl) (cs_margin hIC (by omega) (v := S 4 f 4) (by rw [e4]) ?_)
    refine r_aload_n M dL_ends_102 rfl ?_
    refine r_iload_n M dL_ends_103 rfl ?_
    refine r_callV1 MM dL_ends_104 ck_L_17 vk_X3_share ⟨by omega, by omega, by omega⟩ ⟨by decide, by decide, rfl⟩ (by decide) (Nat.le_of_ble_eq_true rfl) (cs_share hIC (by omega) (v := S 4 f 5) (by rw [e4]) ?_)
    refine r_iadd M dL_ends_107 ?_
    refine r_istore_6 M dL_ends_108 (by decide) rfl ?_
    refine r_aload_n M dL_ends_110 rfl ?_
    refine r_callV0 MM dL_ends_111 ck_L_42 vk_X3_close ⟨by omega, by omega, by omega⟩ ⟨by decide, by decide, rfl⟩ (by decide) (Nat.le_of_ble_eq_true rfl) (cs_close hIC hLC.2.1 (by omega) ?_)
    generalize (ea4 (cl1 C) f).2 = left at *
    generalize clS C f = S2 at *
    obtain ⟨P, Q, R, pd, ⟨hLI, h03⟩, ⟨g6, g5, g5b, gl, gl0⟩, ⟨g4, gpd, gpd2⟩, gj, gsum, gwon, gf3, gf4, gf5, gf7, gf2⟩ := hca
    have hI2 := hLI.1.ci
    have hend := h S2 hLI h03
    have hmf := hI.mem (show f < 10 by omega)
    unfold MI at hmf
    have hfn : f < cN S := by omega
    refine k_w M (n2 := 60) (by omega) (by omega) ?_
    refine r_istore_7 M dL_ends_114 (by decide) rfl ?_
    refine r_aload_n M dL_ends_116 rfl ?_
    refine r_callV0 MM dL_ends_117 ck_L_30 vk_X3_uncovered ⟨by omega, by omega, by omega⟩ ⟨by decide, by decide, rfl⟩ (by decide) (Nat.le_of_ble_eq_true rfl) (cs_uncovered g6 ?_)
    refine r_iload M dL_ends_120 rfl ?_
    refine r_iload M dL_ends_122 rfl ?_
    refine r_iadd M dL_ends_124 ?_
    refine r_icmp_ne M dL_ends_125 (tgt := 164) rfl (by omega) (fun b125 => by omega) (fun b125 => ?_)
    refine r_aload_n M dL_ends_128 rfl ?_
    refine r_callV0 MM dL_ends_129 ck_L_27 vk_X3_failing ⟨by omega, by omega, by omega⟩ ⟨by decide, by decide, rfl⟩ (by decide) (Nat.le_of_ble_eq_true rfl) (cs_failing hLI.2 ?_)
    refine r_iconst M dL_ends_132 ?_
    refine r_icmp_ne M dL_ends_133 (tgt := 164) rfl (by omega) (fun b133 => by omega) (fun b133 => ?_)
    refine r_aload_n M dL_ends_136 rfl ?_
    refine r_callV0 MM dL_ends_137 ck_L_45 vk_X3_loss ⟨by omega, by omega, by omega⟩ ⟨by decide, by decide, rfl⟩ (by decide) (Nat.le_of_ble_eq_true rfl) (cs_loss rfl ?_)
    refine r_if_lt M dL_ends_140 (tgt := 164) rfl (by omega) (fun b140 => by omega) (fun b140 => ?_)
    refine r_aload_n M dL_ends_143 rfl ?_
    refine r_callV0 MM dL_ends_144 ck_L_45 vk_X3_loss ⟨by omega, by omega, by omega⟩ ⟨by decide, by decide, rfl⟩ (by decide) (Nat.le_of_ble_eq_true rfl) (cs_loss rfl ?_)
    refine r_sipush M dL_ends_147 rfl ?_
    refine r_iload_n M dL_ends_150 rfl ?_
    refine r_imul M dL_ends_151 ?_
    refine r_icmp_gt M dL_ends_152 (tgt := 164) rfl (by omega) (fun b152 => by omega) (fun b152 => ?_)
    refine r_iload M dL_ends_155 rfl ?_
    refine r_aload_n M dL_ends_157 rfl ?_
    refine r_callV0 MM dL_ends_158 ck_L_45 vk_X3_loss ⟨by omega, by omega, by omega⟩ ⟨by decide, by decide, rfl⟩ (by decide) (Nat.le_of_ble_eq_true rfl) (cs_loss rfl ?_)
    refine r_icmp_le M dL_ends_161 (tgt := 166) rfl (by omega) (fun b161 => ?_) (fun b161 => by omega)
    refine r_iload M dL_ends_166 rfl ?_
    refine r_aload_n M dL_ends_168 rfl ?_
    refine r_callV0 MM dL_ends_169 ck_L_8 vk_X3_capital ⟨by omega, by omega, by omega⟩ ⟨by decide, by decide, rfl⟩ (by decide) (Nat.le_of_ble_eq_true rfl) (cs_capital g4 ?_)
    refine r_isub M dL_ends_172 ?_
    refine r_istore_8 M dL_ends_173 (by decide) rfl ?_
    refine r_iconst M dL_ends_175 ?_
    refine r_istore_9 M dL_ends_176 (by decide) rfl ?_
    refine r_iconst M dL_ends_178 ?_
    refine r_istore_10 M dL_ends_179 (by decide) rfl ?_
    refine r_iconst M dL_ends_181 ?_
    refine r_istore_11 M dL_ends_182 (by decide) rfl ?_
    skip
    have hgo := goN_rng S
    refine fz (P := fun l => ∀ (e8 w9 : Int) (c12 c13 : Option AV), e8 = pd + smN (eatD S P Q R) l → w9 = smN (fun j => S2 4 j 11 - S 4 j 11) l → K (60 + 15 * l) 184 [some (vR 0 0), some (vI b), some (vR 11 0), some (vI (f : Int)), some (vI (S 0 0 6)), some (vI (S 0 0 4)), some (vI (S 4 f 4 + S 4 f 5)), some (vI left), some (vI e8), some (vI w9), some (vI (goN S l)), some (vI (l : Int)), c12, c13] [] S2) (m := cN S) ?_ ?_ _ _ _ _ (by show _ = pd + 0; omega) rfl
    · intro e8 w9 c12 c13 he8 hw9
      have hw0 : 0 ≤ smN (fun j => S2 4 j 11 - S 4 j 11) (cN S) := by
        have : ∀ n, n ≤ cN S → 0 ≤ smN (fun j => S2 4 j 11 - S 4 j 11) n := by
          intro n
          induction n with
          | zero => intro _; exact Int.le_refl _
          | succ n ih =>
            intro hn
            have h1 := ih (by omega)
            have h2 := (gj n (by omega)).1.2
            show 0 ≤ smN (fun j => S2 4 j 11 - S 4 j 11) n + (S2 4 n 11 - S 4 n 11)
            omega
        exact this _ (Nat.le_refl _)
      have hle := eatD_le (S := S) (P := P) (Q := Q) (R := R) (cN S) (fun k hk => ⟨(gj k hk).2.1.1, (gj k hk).2.2.1.1, (gj k hk).2.2.2.1.1⟩)
      have heq : goN S (cN S) = 0 → smN (eatD S P Q R) (cN S) = smN Q (cN S) + smN P (cN S) + smN R (cN S) := fun q => eatD_eq (cN S) (fun k hk q0 => by
        have h1 := goN_z q k hk
        have h2 := (gj k hk).2.2.2.2.1 (fun z => by rcases z with z | z <;> omega)
        exact ⟨h2.1, h2.2.2⟩)
      have hg := hgo (cN S)
      generalize goN S (cN S) = gone at *
      generalize smN (eatD S P Q R) (cN S) = eat at *
      generalize smN (fun j => S2 4 j 11 - S 4 j 11) (cN S) = wons at *
      refine r_iload M dL_ends_184 rfl ?_
      refine r_aload_n M dL_ends_186 rfl ?_
      refine r_callV0 MM dL_ends_187 ck_L_14 vk_X3_members ⟨by omega, by omega, by omega⟩ ⟨by decide, by decide, rfl⟩ (by decide) (Nat.le_of_ble_eq_true rfl) (cs_members h03 ?_)
      refine r_icmp_ge M dL_ends_190 (tgt := 456) rfl (by omega) (fun b190 => ?_) (fun b190 => by omega)
      refine r_iload M dL_ends_456 rfl ?_
      refine r_iload_n M dL_ends_458 rfl ?_
      refine r_icmp_gt M dL_ends_459 (tgt := 497) rfl (by omega) (fun b459 => by omega) (fun b459 => ?_)
      refine r_aload_n M dL_ends_462 rfl ?_
      refine r_iload_n M dL_ends_463 rfl ?_
      refine r_callV1 MM dL_ends_464 ck_L_33 vk_X3_state ⟨by omega, by omega, by omega⟩ ⟨by decide, by decide, rfl⟩ (by decide) (Nat.le_of_ble_eq_true rfl) (cs_state hI2 (by omega) gf3 ?_)
      refine r_iconst M dL_ends_467 ?_
      refine r_icmp_ne M dL_ends_468 (tgt := 497) rfl (by omega) (fun b468 => by omega) (fun b468 => ?_)
      refine r_aload_n M dL_ends_471 rfl ?_
      refine r_iload_n M dL_ends_472 rfl ?_
      refine r_callV1 MM dL_ends_473 ck_L_39 vk_X3_margin ⟨by omega, by omega, by omega⟩ ⟨by decide, by decide, rfl⟩ (by decide) (Nat.le_of_ble_eq_true rfl) (cs_margin hI2 (by omega) gf4 ?_)
      refine r_aload_n M dL_ends_476 rfl ?_
      refine r_iload_n M dL_ends_477 rfl ?_
      refine r_callV1 MM dL_ends_478 ck_L_17 vk_X3_share ⟨by omega, by omega, by omega⟩ ⟨by decide, by decide, rfl⟩ (by decide) (Nat.le_of_ble_eq_true rfl) (cs_share hI2 (by omega) gf5 ?_)
      refine r_iadd M dL_ends_481 ?_
      refine r_aload_n M dL_ends_482 rfl ?_
      refine r_iload_n M dL_ends_483 rfl ?_
      refine r_callV1 MM dL_ends_484 ck_L_21 vk_X3_gain ⟨by omega, by omega, by omega⟩ ⟨by decide, by decide, rfl⟩ (by decide) (Nat.le_of_ble_eq_true rfl) (cs_gain hI2 (by omega) gf7 ?_)
      refine r_iadd M dL_ends_487 ?_
      refine r_aload_n M dL_ends_488 rfl ?_
      refine r_iload_n M dL_ends_489 rfl ?_
      refine r_callV1 MM dL_ends_490 ck_L_48 vk_X3_clientLots ⟨by omega, by omega, by omega⟩ ⟨by decide, by decide, rfl⟩ (by decide) (Nat.le_of_ble_eq_true rfl) (cs_clientLots hI2 (by omega) gf2 ?_)
      refine r_iadd M dL_ends_493 ?_
      refine r_if_eq M dL_ends_494 (tgt := 499) rfl (by omega) (fun b494 => ?_) (fun b494 => by omega)
      refine r_aload_n M dL_ends_499 rfl ?_
      refine r_callV0 MM dL_ends_500 ck_L_45 vk_X3_loss ⟨by omega, by omega, by omega⟩ ⟨by decide, by decide, rfl⟩ (by decide) (Nat.le_of_ble_eq_true rfl) (cs_loss rfl ?_)
      refine r_iload M dL_ends_503 rfl ?_
      refine r_isub M dL_ends_505 ?_
      refine r_istore_11 M dL_ends_506 (by decide) rfl ?_
      refine r_iload M dL_ends_508 rfl ?_
      refine r_if_le M dL_ends_510 (tgt := 518) rfl (by omega) (fun b510 => ?_) (fun b510 => ?_)
      · refine r_iconst M dL_ends_518 ?_
        refine r_istore_11 M dL_ends_519 (by decide) rfl ?_
        refine r_iload M dL_ends_521 rfl ?_
        refine r_if_eq M dL_ends_523 (tgt := 544) rfl (by omega) (fun b523 => ?_) (fun b523 => ?_)
        · refine r_iload M dL_ends_544 rfl ?_
          refine r_iload M dL_ends_546 rfl ?_
          refine r_iload M dL_ends_548 rfl ?_
          refine r_isub M dL_ends_550 ?_
          refine r_icmp_ne M dL_ends_551 (tgt := 558) rfl (by omega) (fun b551 => by omega) (fun b551 => ?_)
          refine r_iconst M dL_ends_554 ?_
          refine r_goto M dL_ends_555 (tgt := 559) rfl ?_
          refine r_zret MM dL_ends_559 (by omega) ?_
          exact hend
        refine r_iload M dL_ends_526 rfl ?_
        refine r_iload M dL_ends_528 rfl ?_
        refine r_iload M dL_ends_530 rfl ?_
        refine r_isub M dL_ends_532 ?_
        refine r_icmp_gt M dL_ends_533 (tgt := 540) rfl (by omega) (fun b533 => by omega) (fun b533 => ?_)
        refine r_iconst M dL_ends_536 ?_
        refine r_goto M dL_ends_537 (tgt := 559) rfl ?_
        refine r_zret MM dL_ends_559 (by omega) ?_
        exact hend
      refine r_iload M dL_ends_513 rfl ?_
      refine r_goto M dL_ends_515 (tgt := 519) rfl ?_
      refine r_istore_11 M dL_ends_519 (by decide) rfl ?_
      refine r_iload M dL_ends_521 rfl ?_
      refine r_if_eq M dL_ends_523 (tgt := 544) rfl (by omega) (fun b523 => ?_) (fun b523 => ?_)
      · refine r_iload M dL_ends_544 rfl ?_
        refine r_iload M dL_ends_546 rfl ?_
        refine r_iload M dL_ends_548 rfl ?_
        refine r_isub M dL_ends_550 ?_
        refine r_icmp_ne M dL_ends_551 (tgt := 558) rfl (by omega) (fun b551 => by omega) (fun b551 => ?_)
        refine r_iconst M dL_ends_554 ?_
        refine r_goto M dL_ends_555 (tgt := 559) rfl ?_
        refine r_zret MM dL_ends_559 (by omega) ?_
        exact hend
      refine r_iload M dL_ends_526 rfl ?_
      refine r_iload M dL_ends_528 rfl ?_
      refine r_iload M dL_ends_530 rfl ?_
      refine r_isub M dL_ends_532 ?_
      refine r_icmp_gt M dL_ends_533 (tgt := 540) rfl (by omega) (fun b533 => by omega) (fun b533 => ?_)
      refine r_iconst M dL_ends_536 ?_
      refine r_goto M dL_ends_537 (tgt := 559) rfl ?_
      refine r_zret MM dL_ends_559 (by omega) ?_
      exact hend
    · intro l hl hP e8 w9 c12 c13 he8 hw9
      have hl2 : (l : Int) < S2 0 0 3 := by omega
      have hj := gj l hl
      have hm := hI.mem (show l < 10 by omega)
      unfold MI at hm
      have hm2 := hI2.mem (show l < 10 by omega)
      unfold MI at hm2
      have hbl := hL.1.bd.1 l (by omega)
      have h5 : S2 11 0 l = S 4 l 5 := (h11 l (by omega) (by omega)).trans (snV_5 S (by omega))
      have h7' : S2 11 0 (10 + l) = S 4 l 7 := (h11 (10 + l) (by omega) (by omega)).trans (snV_7 S (by omega))
      have h10 : S2 11 0 (20 + l) = S 4 l 10 := (h11 (20 + l) (by omega) (by omega)).trans (snV_10 S (by omega))
      have h3' : S2 11 0 (30 + l) = S 4 l 3 := (h11 (30 + l) (by omega) (by omega)).trans (snV_3 S (by omega))
      have h11' : S2 11 0 (40 + l) = S 4 l 11 := (h11 (40 + l) (by omega) (by omega)).trans (snV_11 S (by omega))
      have hE0 : S 4 l 3 = 0 → smN (eatD S P Q R) (l + 1) = smN (eatD S P Q R) l + (Q l + (P l + R l)) := fun q => by
        show smN (eatD S P Q R) l + (Q l + (if S 4 l 3 = 0 then P l + R l else 0)) = _
        rw [if_pos q]
      have hE1 : ¬ S 4 l 3 = 0 → smN (eatD S P Q R) (l + 1) = smN (eatD S P Q R) l + Q l := fun q => by
        show smN (eatD S P Q R) l + (Q l + (if S 4 l 3 = 0 then P l + R l else 0)) = _
        rw [if_neg q]
        omega
      have hW : smN (fun j => S2 4 j 11 - S 4 j 11) (l + 1) = smN (fun j => S2 4 j 11 - S 4 j 11) l + (S2 4 l 11 - S 4 l 11) := rfl
      have hG1 : S 4 l 3 = 1 → goN S (l + 1) = 1 := fun q => if_pos q
      have hG0 : ¬ S 4 l 3 = 1 → goN S (l + 1) = goN S l := fun q => if_neg q
      have tail : ∀ e9 w10 : Int, e9 = pd + smN (eatD S P Q R) l + Q l → w10 = smN (fun j => S2 4 j 11 - S 4 j 11) (l + 1) → K (60 + 15 * l + 8) 310 [some (vR 0 0), some (vI b), some (vR 11 0), some (vI (f : Int)), some (vI (S 0 0 6)), some (vI (S 0 0 4)), some (vI (S 4 f 4 + S 4 f 5)), some (vI left), some (vI e9), some (vI w10), some (vI (goN S (l + 1))), some (vI (l : Int)), c12, c13] [] S2 := by
        intro e9 w10 he9 hw10
        generalize goN S (l + 1) = gone at *
        generalize smN (fun j => S2 4 j 11 - S 4 j 11) (l + 1) = wons at *
        refine r_aload_n M dL_ends_310 rfl ?_
        refine r_bipush M dL_ends_311 rfl ?_
        refine r_iload M dL_ends_313 rfl ?_
        refine r_iadd M dL_ends_315 ?_
        refine r_ialdV M ((30 + l)) dL_ends_316 ⟨rfl, by decide⟩ (by decide) (by omega) (show (_ : Nat) < 50 by omega) (Nat.le_of_ble_eq_true rfl) (S 4 l 3) (by exact h3') ?_
        refine r_if_eq M dL_ends_317 (tgt := 323) rfl (by omega) (fun b317 => ?_) (fun b317 => ?_)
        · refine r_aload_n M dL_ends_323 rfl ?_
          refine r_iload M dL_ends_324 rfl ?_
          refine r_ialdV M (_) dL_ends_326 ⟨rfl, by decide⟩ (by decide) rfl (show (_ : Nat) < 50 by omega) (Nat.le_of_ble_eq_true rfl) (S 4 l 5) (by exact h5) ?_
          refine r_aload_n M dL_ends_327 rfl ?_
          refine r_iload M dL_ends_328 rfl ?_
          refine r_callV1 MM dL_ends_330 ck_L_17 vk_X3_share ⟨by omega, by omega, by omega⟩ ⟨by decide, by decide, rfl⟩ (by decide) (Nat.le_of_ble_eq_true rfl) (cs_share hI2 hl2 (hj.2.2.2.2.2.2 b317).2.1 ?_)
          refine r_isub M dL_ends_333 ?_
          refine r_istore_12 M dL_ends_334 (by decide) rfl ?_
          refine r_aload_n M dL_ends_336 rfl ?_
          refine r_bipush M dL_ends_337 rfl ?_
          refine r_iload M dL_ends_339 rfl ?_
          refine r_iadd M dL_ends_341 ?_
          refine r_ialdV M ((10 + l)) dL_ends_342 ⟨rfl, by decide⟩ (by decide) (by omega) (show (_ : Nat) < 50 by omega) (Nat.le_of_ble_eq_true rfl) (S 4 l 7) (by exact h7') ?_
          refine r_aload_n M dL_ends_343 rfl ?_
          refine r_iload M dL_ends_344 rfl ?_
          refine r_callV1 MM dL_ends_346 ck_L_21 vk_X3_gain ⟨by omega, by omega, by omega⟩ ⟨by decide, by decide, rfl⟩ (by decide) (Nat.le_of_ble_eq_true rfl) (cs_gain hI2 hl2 (hj.2.2.2.2.2.2 b317).2.2.1 ?_)
          refine r_isub M dL_ends_349 ?_
          refine r_istore_13 M dL_ends_350 (by decide) rfl ?_
          refine r_aload_n M dL_ends_352 rfl ?_
          refine r_iload M dL_ends_353 rfl ?_
          refine r_callV1 MM dL_ends_355 ck_L_33 vk_X3_state ⟨by omega, by omega, by omega⟩ ⟨by decide, by decide, rfl⟩ (by decide) (Nat.le_of_ble_eq_true rfl) (cs_state hI2 hl2 (hj.2.2.2.2.2.2 b317).1 ?_)
          refine r_if_ne M dL_ends_358 (tgt := 392) rfl (by omega) (fun b358 => by omega) (fun b358 => ?_)
          refine r_iload M dL_ends_361 rfl ?_
          refine r_if_lt M dL_ends_363 (tgt := 392) rfl (by omega) (fun b363 => by omega) (fun b363 => ?_)
          refine r_iload M dL_ends_366 rfl ?_
          refine r_if_lt M dL_ends_368 (tgt := 392) rfl (by omega) (fun b368 => by omega) (fun b368 => ?_)
          refine r_aload_n M dL_ends_371 rfl ?_
          refine r_iload M dL_ends_372 rfl ?_
          refine r_callV1 MM dL_ends_374 ck_L_24 vk_X3_assessed ⟨by omega, by omega, by omega⟩ ⟨by decide, by decide, rfl⟩ (by decide) (Nat.le_of_ble_eq_true rfl) (cs_assessed hI2 hl2 hj.1.1 ?_)
          refine r_aload_n M dL_ends_377 rfl ?_
          refine r_bipush M dL_ends_378 rfl ?_
          refine r_iload M dL_ends_380 rfl ?_
          refine r_iadd M dL_ends_382 ?_
          refine r_ialdV M ((20 + l)) dL_ends_383 ⟨rfl, by decide⟩ (by decide) (by omega) (show (_ : Nat) < 50 by omega) (Nat.le_of_ble_eq_true rfl) (S 4 l 10) (by exact h10) ?_
          refine r_isub M dL_ends_384 ?_
          refine r_aload_n M dL_ends_385 rfl ?_
          refine r_iload M dL_ends_386 rfl ?_
          refine r_ialdV M (_) dL_ends_388 ⟨rfl, by decide⟩ (by decide) rfl (show (_ : Nat) < 50 by omega) (Nat.le_of_ble_eq_true rfl) (S 4 l 5) (by exact h5) ?_
          refine r_icmp_le M dL_ends_389 (tgt := 394) rfl (by omega) (fun b389 => ?_) (fun b389 => by omega)
          refine r_iload M dL_ends_394 rfl ?_
          refine r_if_le M dL_ends_396 (tgt := 408) rfl (by omega) (fun b396 => ?_) (fun b396 => ?_)
          · refine r_iload M dL_ends_408 rfl ?_
            refine r_if_le M dL_ends_410 (tgt := 440) rfl (by omega) (fun b410 => ?_) (fun b410 => ?_)
            · refine r_iload M dL_ends_440 rfl ?_
              refine r_iload M dL_ends_442 rfl ?_
              refine r_iload M dL_ends_444 rfl ?_
              refine r_iadd M dL_ends_446 ?_
              refine r_iadd M dL_ends_447 ?_
              refine r_istore_8 M dL_ends_448 (by decide) rfl ?_
              refine r_iinc_11 M (_) dL_ends_450 rfl (by decide) rfl ?_
              refine r_goto M dL_ends_453 (tgt := 184) rfl ?_
              first | exact k_w M (by omega) (by omega) (hP _ _ _ _ (by have := hE1 b317; omega) (by omega)) | exact k_w M (by omega) (by omega) (hP _ _ _ _ (by have := hE0 b317; omega) (by omega))
            refine r_aload_n M dL_ends_413 rfl ?_
            refine r_iload M dL_ends_414 rfl ?_
            refine r_callV1 MM dL_ends_416 ck_L_17 vk_X3_share ⟨by omega, by omega, by omega⟩ ⟨by decide, by decide, rfl⟩ (by decide) (Nat.le_of_ble_eq_true rfl) (cs_share hI2 hl2 (hj.2.2.2.2.2.2 b317).2.1 ?_)
            refine r_if_gt M dL_ends_419 (tgt := 438) rfl (by omega) (fun b419 => by have := (hj.2.2.2.2.2.2 b317).2.2.2.2 (by omega); omega) (fun b419 => ?_)
            refine r_aload_n M dL_ends_422 rfl ?_
            refine r_iload M dL_ends_423 rfl ?_
            refine r_callV1 MM dL_ends_425 ck_L_21 vk_X3_gain ⟨by omega, by omega, by omega⟩ ⟨by decide, by decide, rfl⟩ (by decide) (Nat.le_of_ble_eq_true rfl) (cs_gain hI2 hl2 (hj.2.2.2.2.2.2 b317).2.2.1 ?_)
            refine r_if_gt M dL_ends_428 (tgt := 438) rfl (by omega) (fun b428 => by have := (hj.2.2.2.2.2.2 b317).2.2.2.2 (by omega); omega) (fun b428 => ?_)
            refine r_aload_n M dL_ends_431 rfl ?_
            refine r_callV0 MM dL_ends_432 ck_L_8 vk_X3_capital ⟨by omega, by omega, by omega⟩ ⟨by decide, by decide, rfl⟩ (by decide) (Nat.le_of_ble_eq_true rfl) (cs_capital g4 ?_)
            refine r_if_le M dL_ends_435 (tgt := 440) rfl (by omega) (fun b435 => ?_) (fun b435 => by have := gpd2 (by omega); omega)
            refine r_iload M dL_ends_440 rfl ?_
            refine r_iload M dL_ends_442 rfl ?_
            refine r_iload M dL_ends_444 rfl ?_
            refine r_iadd M dL_ends_446 ?_
            refine r_iadd M dL_ends_447 ?_
            refine r_istore_8 M dL_ends_448 (by decide) rfl ?_
            refine r_iinc_11 M (_) dL_ends_450 rfl (by decide) rfl ?_
            refine r_goto M dL_ends_453 (tgt := 184) rfl ?_
            first | exact k_w M (by omega) (by omega) (hP _ _ _ _ (by have := hE1 b317; omega) (by omega)) | exact k_w M (by omega) (by omega) (hP _ _ _ _ (by have := hE0 b317; omega) (by omega))
          refine r_aload_n M dL_ends_399 rfl ?_
          refine r_iload M dL_ends_400 rfl ?_
          refine r_callV1 MM dL_ends_402 ck_L_17 vk_X3_share ⟨by omega, by omega, by omega⟩ ⟨by decide, by decide, rfl⟩ (by decide) (Nat.le_of_ble_eq_true rfl) (cs_share hI2 hl2 (hj.2.2.2.2.2.2 b317).2.1 ?_)
          refine r_if_gt M dL_ends_405 (tgt := 438) rfl (by omega) (fun b405 => by have := (hj.2.2.2.2.2.2 b317).2.2.2.1 (by omega); omega) (fun b405 => ?_)
          refine r_iload M dL_ends_408 rfl ?_
          refine r_if_le M dL_ends_410 (tgt := 440) rfl (by omega) (fun b410 => ?_) (fun b410 => ?_)
          · refine r_iload M dL_ends_440 rfl ?_
            refine r_iload M dL_ends_442 rfl ?_
            refine r_iload M dL_ends_444 rfl ?_
            refine r_iadd M dL_ends_446 ?_
            refine r_iadd M dL_ends_447 ?_
            refine r_istore_8 M dL_ends_448 (by decide) rfl ?_
            refine r_iinc_11 M (_) dL_ends_450 rfl (by decide) rfl ?_
            refine r_goto M dL_ends_453 (tgt := 184) rfl ?_
            first | exact k_w M (by omega) (by omega) (hP _ _ _ _ (by have := hE1 b317; omega) (by omega)) | exact k_w M (by omega) (by omega) (hP _ _ _ _ (by have := hE0 b317; omega) (by omega))
          refine r_aload_n M dL_ends_413 rfl ?_
          refine r_iload M dL_ends_414 rfl ?_
          refine r_callV1 MM dL_ends_416 ck_L_17 vk_X3_share ⟨by omega, by omega, by omega⟩ ⟨by decide, by decide, rfl⟩ (by decide) (Nat.le_of_ble_eq_true rfl) (cs_share hI2 hl2 (hj.2.2.2.2.2.2 b317).2.1 ?_)
          refine r_if_gt M dL_ends_419 (tgt := 438) rfl (by omega) (fun b419 => by have := (hj.2.2.2.2.2.2 b317).2.2.2.2 (by omega); omega) (fun b419 => ?_)
          refine r_aload_n M dL_ends_422 rfl ?_
          refine r_iload M dL_ends_423 rfl ?_
          refine r_callV1 MM dL_ends_425 ck_L_21 vk_X3_gain ⟨by omega, by omega, by omega⟩ ⟨by decide, by decide, rfl⟩ (by decide) (Nat.le_of_ble_eq_true rfl) (cs_gain hI2 hl2 (hj.2.2.2.2.2.2 b317).2.2.1 ?_)
          refine r_if_gt M dL_ends_428 (tgt := 438) rfl (by omega) (fun b428 => by have := (hj.2.2.2.2.2.2 b317).2.2.2.2 (by omega); omega) (fun b428 => ?_)
          refine r_aload_n M dL_ends_431 rfl ?_
          refine r_callV0 MM dL_ends_432 ck_L_8 vk_X3_capital ⟨by omega, by omega, by omega⟩ ⟨by decide, by decide, rfl⟩ (by decide) (Nat.le_of_ble_eq_true rfl) (cs_capital g4 ?_)
          refine r_if_le M dL_ends_435 (tgt := 440) rfl (by omega) (fun b435 => ?_) (fun b435 => by have := gpd2 (by omega); omega)
          refine r_iload M dL_ends_440 rfl ?_
          refine r_iload M dL_ends_442 rfl ?_
          refine r_iload M dL_ends_444 rfl ?_
          refine r_iadd M dL_ends_446 ?_
          refine r_iadd M dL_ends_447 ?_
          refine r_istore_8 M dL_ends_448 (by decide) rfl ?_
          refine r_iinc_11 M (_) dL_ends_450 rfl (by decide) rfl ?_
          refine r_goto M dL_ends_453 (tgt := 184) rfl ?_
          first | exact k_w M (by omega) (by omega) (hP _ _ _ _ (by have := hE1 b317; omega) (by omega)) | exact k_w M (by omega) (by omega) (hP _ _ _ _ (by have := hE0 b317; omega) (by omega))
        refine r_goto M dL_ends_320 (tgt := 450) rfl ?_
        refine r_iinc_11 M (_) dL_ends_450 rfl (by decide) rfl ?_
        refine r_goto M dL_ends_453 (tgt := 184) rfl ?_
        first | exact k_w M (by omega) (by omega) (hP _ _ _ _ (by have := hE1 b317; omega) (by omega)) | exact k_w M (by omega) (by omega) (hP _ _ _ _ (by have := hE0 b317; omega) (by omega))
      refine r_iload M dL_ends_184 rfl ?_
      refine r_aload_n M dL_ends_186 rfl ?_
      refine r_callV0 MM dL_ends_187 ck_L_14 vk_X3_members ⟨by omega, by omega, by omega⟩ ⟨by decide, by decide, rfl⟩ (by decide) (Nat.le_of_ble_eq_true rfl) (cs_members h03 ?_)
      refine r_icmp_ge M dL_ends_190 (tgt := 456) rfl (by omega) (fun b190 => by omega) (fun b190 => ?_)
      refine r_iload M dL_ends_193 rfl ?_
      refine r_aload_n M dL_ends_195 rfl ?_
      refine r_iload M dL_ends_196 rfl ?_
      refine r_callV1 MM dL_ends_198 ck_L_36 vk_X3_won ⟨by omega, by omega, by omega⟩ ⟨by decide, by decide, rfl⟩ (by decide) (Nat.le_of_ble_eq_true rfl) (cs_won hI2 hl2 rfl ?_)
      refine r_aload_n M dL_ends_201 rfl ?_
      refine r_bipush M dL_ends_202 rfl ?_
      refine r_iload M dL_ends_204 rfl ?_
      refine r_iadd M dL_ends_206 ?_
      refine r_ialdV M ((40 + l)) dL_ends_207 ⟨rfl, by decide⟩ (by decide) (by omega) (show (_ : Nat) < 50 by omega) (Nat.le_of_ble_eq_true rfl) (S 4 l 11) (by exact h11') ?_
      refine r_isub M dL_ends_208 ?_
      refine r_iadd M dL_ends_209 ?_
      refine r_istore_9 M dL_ends_210 (by decide) rfl ?_
      refine r_iload M dL_ends_212 rfl ?_
      refine r_aload_n M dL_ends_214 rfl ?_
      refine r_iload M dL_ends_215 rfl ?_
      refine r_callV1 MM dL_ends_217 ck_L_24 vk_X3_assessed ⟨by omega, by omega, by omega⟩ ⟨by decide, by decide, rfl⟩ (by decide) (Nat.le_of_ble_eq_true rfl) (cs_assessed hI2 hl2 hj.1.1 ?_)
      refine r_aload_n M dL_ends_220 rfl ?_
      refine r_bipush M dL_ends_221 rfl ?_
      refine r_iload M dL_ends_223 rfl ?_
      refine r_iadd M dL_ends_225 ?_
      refine r_ialdV M ((20 + l)) dL_ends_226 ⟨rfl, by decide⟩ (by decide) (by omega) (show (_ : Nat) < 50 by omega) (Nat.le_of_ble_eq_true rfl) (S 4 l 10) (by exact h10) ?_
      refine r_isub M dL_ends_227 ?_
      refine r_iadd M dL_ends_228 ?_
      refine r_istore_8 M dL_ends_229 (by decide) rfl ?_
      refine r_aload_n M dL_ends_231 rfl ?_
      refine r_bipush M dL_ends_232 rfl ?_
      refine r_iload M dL_ends_234 rfl ?_
      refine r_iadd M dL_ends_236 ?_
      refine r_ialdV M ((30 + l)) dL_ends_237 ⟨rfl, by decide⟩ (by decide) (by omega) (show (_ : Nat) < 50 by omega) (Nat.le_of_ble_eq_true rfl) (S 4 l 3) (by exact h3') ?_
      refine r_iconst M dL_ends_238 ?_
      refine r_icmp_ne M dL_ends_239 (tgt := 310) rfl (by omega) (fun b239 => ?_) (fun b239 => ?_)
      · first | (rw [hG1 b239] at tail; exact k_w M (by omega) (by omega) (tail _ _ (by omega) (by omega))) | (rw [hG0 b239] at tail; exact k_w M (by omega) (by omega) (tail _ _ (by omega) (by omega)))
      refine r_aload_n M dL_ends_242 rfl ?_
      refine r_iload M dL_ends_243 rfl ?_
      refine r_callV1 MM dL_ends_245 ck_L_33 vk_X3_state ⟨by omega, by omega, by omega⟩ ⟨by decide, by decide, rfl⟩ (by decide) (Nat.le_of_ble_eq_true rfl) (cs_state hI2 hl2 (hj.2.2.2.2.2.1 b239).1 ?_)
      refine r_iconst M dL_ends_248 ?_
      refine r_icmp_ne M dL_ends_249 (tgt := 305) rfl (by omega) (fun b249 => by omega) (fun b249 => ?_)
      refine r_aload_n M dL_ends_252 rfl ?_
      refine r_iload M dL_ends_253 rfl ?_
      refine r_callV1 MM dL_ends_255 ck_L_17 vk_X3_share ⟨by omega, by omega, by omega⟩ ⟨by decide, by decide, rfl⟩ (by decide) (Nat.le_of_ble_eq_true rfl) (cs_share hI2 hl2 (hj.2.2.2.2.2.1 b239).2.1 ?_)
      refine r_aload_n M dL_ends_258 rfl ?_
      refine r_iload M dL_ends_259 rfl ?_
      refine r_callV1 MM dL_ends_261 ck_L_39 vk_X3_margin ⟨by omega, by omega, by omega⟩ ⟨by decide, by decide, rfl⟩ (by decide) (Nat.le_of_ble_eq_true rfl) (cs_margin hI2 hl2 (hj.2.2.2.2.2.1 b239).2.2.1 ?_)
      refine r_iadd M dL_ends_264 ?_
      refine r_aload_n M dL_ends_265 rfl ?_
      refine r_iload M dL_ends_266 rfl ?_
      refine r_callV1 MM dL_ends_268 ck_L_21 vk_X3_gain ⟨by omega, by omega, by omega⟩ ⟨by decide, by decide, rfl⟩ (by decide) (Nat.le_of_ble_eq_true rfl) (cs_gain hI2 hl2 (hj.2.2.2.2.2.1 b239).2.2.2.1 ?_)
      refine r_iadd M dL_ends_271 ?_
      refine r_aload_n M dL_ends_272 rfl ?_
      refine r_iload M dL_ends_273 rfl ?_
      refine r_callV1 MM dL_ends_275 ck_L_48 vk_X3_clientLots ⟨by omega, by omega, by omega⟩ ⟨by decide, by decide, rfl⟩ (by decide) (Nat.le_of_ble_eq_true rfl) (cs_clientLots hI2 hl2 (hj.2.2.2.2.2.1 b239).2.2.2.2.1 ?_)
      refine r_iadd M dL_ends_278 ?_
      refine r_if_ne M dL_ends_279 (tgt := 305) rfl (by omega) (fun b279 => by omega) (fun b279 => ?_)
      refine r_aload_n M dL_ends_282 rfl ?_
      refine r_iload M dL_ends_283 rfl ?_
      refine r_callV1 MM dL_ends_285 ck_L_24 vk_X3_assessed ⟨by omega, by omega, by omega⟩ ⟨by decide, by decide, rfl⟩ (by decide) (Nat.le_of_ble_eq_true rfl) (cs_assessed hI2 hl2 hj.1.1 ?_)
      refine r_aload_n M dL_ends_288 rfl ?_
      refine r_bipush M dL_ends_289 rfl ?_
      refine r_iload M dL_ends_291 rfl ?_
      refine r_iadd M dL_ends_293 ?_
      refine r_ialdV M ((20 + l)) dL_ends_294 ⟨rfl, by decide⟩ (by decide) (by omega) (show (_ : Nat) < 50 by omega) (Nat.le_of_ble_eq_true rfl) (S 4 l 10) (by exact h10) ?_
      refine r_isub M dL_ends_295 ?_
      refine r_aload_n M dL_ends_296 rfl ?_
      refine r_iload M dL_ends_297 rfl ?_
      refine r_ialdV M (_) dL_ends_299 ⟨rfl, by decide⟩ (by decide) rfl (show (_ : Nat) < 50 by omega) (Nat.le_of_ble_eq_true rfl) (S 4 l 5) (by exact h5) ?_
      refine r_iconst M dL_ends_300 ?_
      refine r_idiv M dL_ends_301 (by omega) ?_
      refine r_icmp_le M dL_ends_302 (tgt := 307) rfl (by omega) (fun b302 => ?_) (fun b302 => by have := (hj.2.2.2.2.2.1 b239).2.2.2.2.2; omega)
      refine r_iconst M dL_ends_307 ?_
      refine r_istore_10 M dL_ends_308 (by decide) rfl ?_
      first | (rw [hG1 b239] at tail; exact k_w M (by omega) (by omega) (tail _ _ (by omega) (by omega))) | (rw [hG0 b239] at tail; exact k_w M (by omega) (by omega) (tail _ _ (by omega) (by omega)))
  · intro l hl hP
    have hl2 : (l : Int) < S 0 0 3 := by omega
    have hIu : ∀ {X : St} {j : Nat} {v : Int}, CI X → CI (up3 X 11 0 j v) := fun {X j v} hX => CI_cong (fun t' q => up3_t (by omega)) hX
    refine r_iload M dL_ends_20 rfl ?_
    refine r_aload_n M dL_ends_22 rfl ?_
    refine r_callV0 MM dL_ends_23 ck_L_14 vk_X3_members ⟨by omega, by omega, by omega⟩ ⟨by decide, by decide, rfl⟩ (by decide) (Nat.le_of_ble_eq_true rfl) (cs_members (v := S 0 0 3) rfl ?_)
    refine r_icmp_ge M dL_ends_26 (tgt := 97) rfl (by omega) (fun b26 => by omega) (fun b26 => ?_)
    refine r_aload_n M dL_ends_29 rfl ?_
    refine r_iload M dL_ends_30 rfl ?_
    refine r_aload_n M dL_ends_32 rfl ?_
    refine r_iload M dL_ends_33 rfl ?_
    refine r_callV1 MM dL_ends_35 ck_L_17 vk_X3_share ⟨by omega, by omega, by omega⟩ ⟨by decide, by decide, rfl⟩ (by decide) (Nat.le_of_ble_eq_true rfl) (cs_share (hIs l) hl2 (v := S 4 l 5) rfl ?_)
    refine r_iast M (_) dL_ends_38 ⟨rfl, by decide⟩ (by decide) rfl (show (_ : Nat) < 50 by omega) (Nat.le_of_ble_eq_true rfl) ?_
    refine r_aload_n M dL_ends_39 rfl ?_
    refine r_bipush M dL_ends_40 rfl ?_
    refine r_iload M dL_ends_42 rfl ?_
    refine r_iadd M dL_ends_44 ?_
    refine r_aload_n M dL_ends_45 rfl ?_
    refine r_iload M dL_ends_46 rfl ?_
    refine r_callV1 MM dL_ends_48 ck_L_21 vk_X3_gain ⟨by omega, by omega, by omega⟩ ⟨by decide, by decide, rfl⟩ (by decide) (Nat.le_of_ble_eq_true rfl) (cs_gain (hIu (hIs l)) hl2 (v := S 4 l 7) rfl ?_)
    refine r_iast M ((10 + l)) dL_ends_51 ⟨rfl, by decide⟩ (by decide) (by omega) (show (_ : Nat) < 50 by omega) (Nat.le_of_ble_eq_true rfl) ?_
    refine r_aload_n M dL_ends_52 rfl ?_
    refine r_bipush M dL_ends_53 rfl ?_
    refine r_iload M dL_ends_55 rfl ?_
    refine r_iadd M dL_ends_57 ?_
    refine r_aload_n M dL_ends_58 rfl ?_
    refine r_iload M dL_ends_59 rfl ?_
    refine r_callV1 MM dL_ends_61 ck_L_24 vk_X3_assessed ⟨by omega, by omega, by omega⟩ ⟨by decide, by decide, rfl⟩ (by decide) (Nat.le_of_ble_eq_true rfl) (cs_assessed (hIu (hIu (hIs l))) hl2 (v := S 4 l 10) rfl ?_)
    refine r_iast M ((20 + l)) dL_ends_64 ⟨rfl, by decide⟩ (by decide) (by omega) (show (_ : Nat) < 50 by omega) (Nat.le_of_ble_eq_true rfl) ?_
    refine r_aload_n M dL_ends_65 rfl ?_
    refine r_bipush M dL_ends_66 rfl ?_
    refine r_iload M dL_ends_68 rfl ?_
    refine r_iadd M dL_ends_70 ?_
    refine r_aload_n M dL_ends_71 rfl ?_
    refine r_iload M dL_ends_72 rfl ?_
    refine r_callV1 MM dL_ends_74 ck_L_33 vk_X3_state ⟨by omega, by omega, by omega⟩ ⟨by decide, by decide, rfl⟩ (by decide) (Nat.le_of_ble_eq_true rfl) (cs_state (hIu (hIu (hIu (hIs l)))) hl2 (v := S 4 l 3) rfl ?_)
    refine r_iast M ((30 + l)) dL_ends_77 ⟨rfl, by decide⟩ (by decide) (by omega) (show (_ : Nat) < 50 by omega) (Nat.le_of_ble_eq_true rfl) ?_
    refine r_aload_n M dL_ends_78 rfl ?_
    refine r_bipush M dL_ends_79 rfl ?_
    refine r_iload M dL_ends_81 rfl ?_
    refine r_iadd M dL_ends_83 ?_
    refine r_aload_n M dL_ends_84 rfl ?_
    refine r_iload M dL_ends_85 rfl ?_
    refine r_callV1 MM dL_ends_87 ck_L_36 vk_X3_won ⟨by omega, by omega, by omega⟩ ⟨by decide, by decide, rfl⟩ (by decide) (Nat.le_of_ble_eq_true rfl) (cs_won (hIu (hIu (hIu (hIu (hIs l))))) hl2 (v := S 4 l 11) rfl ?_)
    refine r_iast M ((40 + l)) dL_ends_90 ⟨rfl, by decide⟩ (by decide) (by omega) (show (_ : Nat) < 50 by omega) (Nat.le_of_ble_eq_true rfl) ?_
    refine r_iinc_6 M (_) dL_ends_91 rfl (by decide) rfl ?_
    refine r_goto M dL_ends_94 (tgt := 20) rfl ?_
    exact k_w M (by omega) (by omega) (k_S hP (snS_s S (by omega)))
end XEnds
