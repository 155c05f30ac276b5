/-! ===== Parting.part ===== -/
def zf (po : Nat → Int) (l : Nat) : Nat → Int := fun k => if k < l then 0 else po k
def p0f (w b po : Nat → Int) (a : Int) : Nat → Int := fun k => if k < 10 then min (a * w k / smN w 10) (b k) else po k
def qf (w b po : Nat → Int) (a : Int) (l : Nat) : Nat → Int := fun k => if k < l then p0f w b po a k else zf po 10 k
def partR (w b po : Nat → Int) (a : Int) : (Nat → Int) × Int := if smN w 10 ≤ 0 then (zf po 10, a) else strokes w b (p0f w b po a, a - smN (p0f w b po a) 10) 12
theorem zf_0 (po : Nat → Int) : zf po 0 = po := by
  funext k
  unfold zf
  rw [if_neg (by omega)]
theorem zf_s (po : Nat → Int) (l : Nat) : updI (zf po l) l 0 = zf po (l + 1) := by
  funext k
  unfold updI zf
  by_cases h : k = l
  · rw [if_pos h, if_pos (by omega)]
  · rw [if_neg h]
    by_cases h2 : k < l
    · rw [if_pos h2, if_pos (by omega)]
    · rw [if_neg h2, if_neg (by omega)]
theorem qf_0 (w b po : Nat → Int) (a : Int) : qf w b po a 0 = zf po 10 := by
  funext k
  unfold qf
  rw [if_neg (by omega)]
theorem qf_s (w b po : Nat → Int) (a : Int) (l : Nat) : updI (qf w b po a l) l (p0f w b po a l) = qf w b po a (l + 1) := by
  funext k
  unfold updI qf
  by_cases h : k = l
  · rw [if_pos h, if_pos (by omega), h]
  · rw [if_neg h]
    by_cases h2 : k < l
    · rw [if_pos h2, if_pos (by omega)]
    · rw [if_neg h2, if_neg (by omega)]
theorem qf_10 (w b po : Nat → Int) (a : Int) : qf w b po a 10 = p0f w b po a := by
  funext k
  unfold qf
  by_cases h2 : k < 10
  · rw [if_pos h2]
  · rw [if_neg h2]
    unfold zf p0f
    rw [if_neg h2, if_neg h2]
theorem smN_nn {f : Nat → Int} {B : Int} : ∀ {m : Nat}, (∀ k, k < m → 0 ≤ f k ∧ f k ≤ B) → 0 ≤ smN f m ∧ smN f m ≤ m * B
  | 0, _ => ⟨Int.le_refl _, by show (0 : Int) ≤ 0 * B; omega⟩
  | m + 1, h => by
    have h1 := smN_nn (m := m) (fun k hk => h k (by omega))
    have h2 := h m (by omega)
    have e : ((m + 1 : Nat) : Int) * B = m * B + B := by rw [Int.natCast_add, Int.add_mul]; simp
    show 0 ≤ smN f m + f m ∧ smN f m + f m ≤ _
    rw [e]
    omega
theorem smN_le {f h : Nat → Int} : ∀ {m : Nat}, (∀ k, k < m → f k ≤ h k) → smN f m ≤ smN h m
  | 0, _ => Int.le_refl _
  | m + 1, hh => by
    have h1 := smN_le (m := m) (fun k hk => hh k (by omega))
    have h2 := hh m (by omega)
    show smN f m + f m ≤ smN h m + h m
    omega
theorem smN_mem {f : Nat → Int} : ∀ {m k : Nat}, (∀ k, k < m → 0 ≤ f k) → k < m → f k ≤ smN f m
  | m + 1, k, h, hk => by
    have hz : 0 ≤ smN f m := by
      have : ∀ j, j ≤ m → 0 ≤ smN f j := by
        intro j
        induction j with
        | zero => intro _; exact Int.le_refl _
        | succ j ih =>
          intro hj
          have h1 := ih (by omega)
          have h2 := h j (by omega)
          show 0 ≤ smN f j + f j
          omega
      exact this m (Nat.le_refl _)
    have h2 := h m (by omega)
    show f k ≤ smN f m + f m
    by_cases e : k = m
    · subst e; omega
    · have := smN_mem (m := m) (k := k) (fun k hk => h k (by omega)) (by omega)
      omega
theorem smN_div {w : Nat → Int} {a s : Int} (hs : 0 < s) : ∀ m : Nat, smN (fun k => a * w k / s) m * s ≤ a * smN w m
  | 0 => by show (0 : Int) * s ≤ a * 0; simp
  | m + 1 => by
    have h1 := smN_div (w := w) (a := a) hs m
    have h2 : a * w m / s * s ≤ a * w m := Int.ediv_mul_le _ (by omega)
    show (smN (fun k => a * w k / s) m + a * w m / s) * s ≤ a * (smN w m + w m)
    rw [Int.add_mul, Int.mul_add]
    omega
/-- the numbers of a parting: weights, bounds and amount are not below 0 and not large -/
def okW (w b : Nat → Int) (a : Int) : Prop := (∀ k, k < 10 → (0 ≤ w k ∧ w k ≤ 100000000) ∧ 0 ≤ b k ∧ b k ≤ 100000000) ∧ 0 ≤ a ∧ a ≤ 100000000
theorem by_rng {w b : Nat → Int} {a : Int} (h : okW w b a) (hs : 0 < smN w 10) {k : Nat} (hk : k < 10) : (0 ≤ a * w k ∧ a * w k ≤ 10000000000000000) ∧ 0 ≤ a * w k / smN w 10 ∧ a * w k / smN w 10 ≤ a := by
  have h1 := h.1 k hk
  have m1 : 0 ≤ a * w k := Int.mul_nonneg h.2.1 h1.1.1
  have m2 : a * w k ≤ 100000000 * 100000000 := Int.mul_le_mul h.2.2 h1.1.2 h1.1.1 (by omega)
  have m3 : w k ≤ smN w 10 := smN_mem (fun j hj => (h.1 j hj).1.1) hk
  have m4 : a * w k ≤ a * smN w 10 := Int.mul_le_mul_of_nonneg_left m3 h.2.1
  refine ⟨⟨m1, by omega⟩, Int.ediv_nonneg m1 (by omega), ?_⟩
  exact Int.ediv_le_of_le_mul hs m4
theorem p0_ok {w b po : Nat → Int} {a : Int} (h : okW w b a) (hs : 0 < smN w 10) : okP b (p0f w b po a, a - smN (p0f w b po a) 10) := by
  have e : ∀ k, k < 10 → p0f w b po a k = min (a * w k / smN w 10) (b k) := fun k hk => by unfold p0f; rw [if_pos hk]
  have h1 : smN (p0f w b po a) 10 ≤ smN (fun k => a * w k / smN w 10) 10 := smN_le (fun k hk => by rw [e k hk]; exact Int.min_le_left _ _)
  have h2 := smN_div (w := w) (a := a) hs 10
  have h3 : smN (fun k => a * w k / smN w 10) 10 ≤ a := Int.le_of_mul_le_mul_right h2 hs
  have h4 : 0 ≤ smN (p0f w b po a) 10 := by
    refine (smN_nn (B := 100000000) (fun k hk => ?_)).1
    rw [e k hk]
    have := by_rng h hs hk
    have h5 := h.1 k hk
    omega
  have h6 := h.2
  refine ⟨fun k hk => ?_, ?_, ?_⟩
  · show 0 ≤ p0f w b po a k ∧ p0f w b po a k ≤ b k
    rw [e k hk]
    have := by_rng h hs hk
    have h5 := h.1 k hk
    omega
  · show 0 ≤ a - _
    omega
  · show a - _ ≤ _
    omega
theorem k_L {K : KT} {n pc : Nat} {L L2 : List (Option AV)} {st : List AV} {S : St} (h : K n pc L st S) (e : L2 = L) : K n pc L2 st S := e ▸ h
section XPart
variable {g : Gl} {S : St} {Ret : Option AV → St → Prop} {Thr : String → St → Prop}
theorem wp_wp (S : St) (p q : Nat → Int) : wp (wp S p) q = wp S q := by
  funext a b
  unfold wp upT
  by_cases h : a = 10 ∧ b = 0
  · simp only [if_pos h]
  · simp only [if_neg h]
theorem cn_giveCoins2 {w b p : Nat → Int} {rest : Int} (e8 : S 8 0 = w) (e9 : S 9 0 = b) (hw : ∀ k, k < 10 → (0 ≤ w k ∧ w k ≤ 100000000) ∧ 0 ≤ b k ∧ b k ≤ 100000000) (hx : okP b (p, rest)) (h : Ret (some (vI (strokes w b (p, rest) 12).2)) (wp S (strokes w b (p, rest) 12).1)) : Cn g yX2_giveCoins cX2_giveCoins 6 (some .int) 2 45 0 [vR 3 0, vI rest] (wp S p) Ret Thr := by
  have f8 : (wp S p) 8 0 = w := by rw [wp_ne S p (by omega), e8]
  have f9 : (wp S p) 9 0 = b := by rw [wp_ne S p (by omega), e9]
  have f10 : (wp S p) 10 0 = p := wp_10 S p
  refine cn_giveCoins (fun k hk => ?_) (by rw [f9, f10]; exact hx) (by rw [f8, f9, f10, wp_wp]; exact h)
  have h1 := hw k hk
  have h2 := hx.1 k hk
  rw [f8, f9, f10]
  have h3 : (p, rest).1 k = p k := rfl
  omega
theorem cn_part {w b po : Nat → Int} (e8 : S 8 0 = w) (e9 : S 9 0 = b) (e10 : S 10 0 = po) {a : Int} (ha : okW w b a) (h : Ret (some (vI (partR w b po a).2)) (wp S (partR w b po a).1)) : Cn g yX2_part cX2_part 6 (some .int) 3 70 0 [vR 3 0, vI a] S Ret Thr := by
  refine enter (L := [some (vR 3 0), some (vI a), none, none, none, none]) (by decide +kernel) (Nat.le_of_ble_eq_true rfl) rfl (fun K MM => ?_)
  have M := MM.mk
  have r8 : ∀ p, (wp S p) 8 0 = w := fun p => by rw [wp_ne S p (by omega), e8]
  have r9 : ∀ p, (wp S p) 9 0 = b := fun p => by rw [wp_ne S p (by omega), e9]
  have hsm := (smN_nn (f := w) (B := 100000000) (m := 10) (fun k hk => (ha.1 k hk).1))
  have haa := ha.2
  refine r_iconst M dX2_part_0 ?_
  refine r_istore_2 M dX2_part_1 (by decide) rfl ?_
  refine r_iconst M dX2_part_2 ?_
  refine r_istore_3 M dX2_part_3 (by decide) rfl ?_
  refine k_S (S1 := wp S (zf po 0)) ?_ (by rw [zf_0, ← e10, wp_self])
  refine fz (P := fun l => K 0 4 [some (vR 3 0), some (vI a), some (vI (smN w l)), some (vI (l : Int)), none, none] [] (wp S (zf po l))) (m := 10) ?_ ?_
  · refine r_iload_n M dX2_part_4 rfl ?_
    refine r_bipush M dX2_part_5 rfl ?_
    refine r_icmp_ge M dX2_part_7 (tgt := 32) rfl (by omega) (fun b7 => ?_) (fun b7 => by omega)
    refine r_iload_n M dX2_part_32 rfl ?_
    refine r_if_gt M dX2_part_33 (tgt := 38) rfl (by omega) (fun b33 => ?_) (fun b33 => ?_)
    rotate_left
    · refine r_iload_n M dX2_part_36 rfl ?_
      refine r_iret MM dX2_part_37 ?_
      exact ret_vS h (by unfold partR; rw [if_pos b33]) (by unfold partR; rw [if_pos b33])
    refine r_iload_n M dX2_part_38 rfl ?_
    refine r_istore_3 M dX2_part_39 (by decide) rfl ?_
    refine r_iconst M dX2_part_40 ?_
    refine r_istore_4 M dX2_part_41 (by decide) rfl ?_
    refine k_S (S1 := wp S (qf w b po a 0)) ?_ (by rw [qf_0])
    refine k_L (L := [some (vR 3 0), some (vI a), some (vI (smN w 10)), some (vI (a - smN (p0f w b po a) 0)), some (vI 0), none]) ?_ (by simp [smN])
    refine fz (P := fun l => ∀ c5, K 0 43 [some (vR 3 0), some (vI a), some (vI (smN w 10)), some (vI (a - smN (p0f w b po a) l)), some (vI (l : Int)), c5] [] (wp S (qf w b po a l))) (m := 10) ?_ ?_ _
    · intro c5
      have hk0 := p0_ok (po := po) ha b33
      refine r_iload M dX2_part_43 rfl ?_
      refine r_bipush M dX2_part_45 rfl ?_
      refine r_icmp_ge M dX2_part_47 (tgt := 102) rfl (by omega) (fun b47 => ?_) (fun b47 => by omega)
      refine r_aload_n M dX2_part_102 rfl ?_
      refine r_iload_n M dX2_part_103 rfl ?_
      refine r_callV1 MM dX2_part_104 ck_X2_27 vk_X2_giveCoins ⟨by omega, by omega, by omega⟩ ⟨by decide, by decide, rfl⟩ (by decide) (Nat.le_of_ble_eq_true rfl) (cn_giveCoins2 e8 e9 ha.1 (by rw [qf_10]; exact hk0) ?_)
      refine r_iret MM dX2_part_107 ?_
      exact ret_vS h (by unfold partR; rw [if_neg (by omega), qf_10]) (by unfold partR; rw [if_neg (by omega), qf_10])
    · intro l hl9 hP c5
      have hb := by_rng ha b33 hl9
      have hw := ha.1 l hl9
      have ep : p0f w b po a l = min (a * w l / smN w 10) (b l) := by unfold p0f; rw [if_pos hl9]
      have e9' : a - smN (p0f w b po a) l - p0f w b po a l = a - smN (p0f w b po a) (l + 1) := by
        show _ = a - (smN (p0f w b po a) l + p0f w b po a l)
        omega
      refine r_iload M dX2_part_43 rfl ?_
      refine r_bipush M dX2_part_45 rfl ?_
      refine r_icmp_ge M dX2_part_47 (tgt := 102) rfl (by omega) (fun b47 => by omega) (fun b47 => ?_)
      refine r_iload_n M dX2_part_50 rfl ?_
      refine r_i2l M dX2_part_51 (by omega) ?_
      refine r_aload_n M dX2_part_52 rfl ?_
      refine r_getR M dX2_part_53 fk_X2_9 (by decide) rfl ?_
      refine r_iload M dX2_part_56 rfl ?_
      refine r_ialdV M (_) dX2_part_58 ⟨rfl, by decide⟩ (by decide) rfl (show (_ : Nat) < 10 by omega) (Nat.le_of_ble_eq_true rfl) (w l) (by rw [r8]) ?_
      refine r_i2l M dX2_part_59 (by omega) ?_
      refine r_lmul M dX2_part_60 ?_
      refine r_iload_n M dX2_part_61 rfl ?_
      refine r_i2l M dX2_part_62 (by omega) ?_
      refine r_ldiv M dX2_part_63 (by omega) ?_
      refine r_l2i M dX2_part_64 ?_
      refine r_istore_5 M dX2_part_65 (by decide) rfl ?_
      refine r_aload_n M dX2_part_67 rfl ?_
      refine r_getR M dX2_part_68 fk_X2_18 (by decide) rfl ?_
      refine r_iload M dX2_part_71 rfl ?_
      refine r_iload M dX2_part_73 rfl ?_
      refine r_aload_n M dX2_part_75 rfl ?_
      refine r_getR M dX2_part_76 fk_X2_15 (by decide) rfl ?_
      refine r_iload M dX2_part_79 rfl ?_
      refine r_ialdV M (_) dX2_part_81 ⟨rfl, by decide⟩ (by decide) rfl (show (_ : Nat) < 10 by omega) (Nat.le_of_ble_eq_true rfl) (b l) (by rw [r9]) ?_
      refine r_min M dX2_part_82 mm_X2_21 (by omega) ⟨by omega, by omega⟩ (Nat.le_of_ble_eq_true rfl) ?_
      refine r_iast M (_) dX2_part_85 ⟨rfl, by decide⟩ (by decide) rfl (show (_ : Nat) < 10 by omega) (Nat.le_of_ble_eq_true rfl) ?_
      refine r_iload_n M dX2_part_86 rfl ?_
      refine r_aload_n M dX2_part_87 rfl ?_
      refine r_getR M dX2_part_88 fk_X2_18 (by decide) rfl ?_
      refine r_iload M dX2_part_91 rfl ?_
      refine r_ialdV M (_) dX2_part_93 ⟨rfl, by decide⟩ (by decide) rfl (show (_ : Nat) < 10 by omega) (Nat.le_of_ble_eq_true rfl) (p0f w b po a l) (by rw [wp_up, wp_10, ← ep]; unfold updI; rw [if_pos rfl]) ?_
      refine r_isub M dX2_part_94 ?_
      refine r_istore_3 M dX2_part_95 (by decide) rfl ?_
      refine r_iinc_4 M (_) dX2_part_96 rfl (by decide) rfl ?_
      refine r_goto M dX2_part_99 (tgt := 43) rfl ?_
      rw [e9']; exact k_S (hP _) (by rw [wp_up, ← ep, qf_s])
  · intro l hl9 hP
    refine r_iload_n M dX2_part_4 rfl ?_
    refine r_bipush M dX2_part_5 rfl ?_
    refine r_icmp_ge M dX2_part_7 (tgt := 32) rfl (by omega) (fun b7 => by omega) (fun b7 => ?_)
    refine r_iload_n M dX2_part_10 rfl ?_
    refine r_aload_n M dX2_part_11 rfl ?_
    refine r_getR M dX2_part_12 fk_X2_9 (by decide) rfl ?_
    refine r_iload_n M dX2_part_15 rfl ?_
    refine r_ialdV M (_) dX2_part_16 ⟨rfl, by decide⟩ (by decide) rfl (show (_ : Nat) < 10 by omega) (Nat.le_of_ble_eq_true rfl) (w l) (by rw [r8]) ?_
    refine r_iadd M dX2_part_17 ?_
    refine r_istore_2 M dX2_part_18 (by decide) rfl ?_
    refine r_aload_n M dX2_part_19 rfl ?_
    refine r_getR M dX2_part_20 fk_X2_18 (by decide) rfl ?_
    refine r_iload_n M dX2_part_23 rfl ?_
    refine r_iconst M dX2_part_24 ?_
    refine r_iast M (_) dX2_part_25 ⟨rfl, by decide⟩ (by decide) rfl (show (_ : Nat) < 10 by omega) (Nat.le_of_ble_eq_true rfl) ?_
    refine r_iinc_3 M (_) dX2_part_26 rfl (by decide) rfl ?_
    refine r_goto M dX2_part_29 (tgt := 4) rfl ?_
    exact k_S hP (by rw [wp_up, zf_s])
end XPart
