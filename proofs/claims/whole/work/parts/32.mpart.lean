/-! ===== the reference: part ===== -/
def allN (w b : Nat → Int) (n : Nat) : Int := smN (fun k => if 0 < w k then b k else 0) n
def p0m (w b po : Nat → Int) (gv : Int) (n : Nat) : Nat → Int := fun k => if k < n then min (gv * w k / smN w n) (b k) else po k
def qm (w b po : Nat → Int) (gv : Int) (n l : Nat) : Nat → Int := fun k => if k < l then p0m w b po gv n k else zf po n k
def whM (w b : Nat → Int) (n : Nat) : Nat → (Nat → Int) × Int → (Nat → Int) × Int
  | 0, x => x
  | f + 1, x => if 0 < x.2 then whM w b n f (gvN w b 1 x.1 x.2 n) else x
def gvM (w b : Nat → Int) (n : Nat) (a : Int) : Int := min a (allN w b n)
def fnM (w b po : Nat → Int) (n : Nat) (a : Int) : Nat → Int := if 0 < smN w n then (whM w b n (gvM w b n a - smN (p0m w b po (gvM w b n a) n) n).toNat (p0m w b po (gvM w b n a) n, gvM w b n a - smN (p0m w b po (gvM w b n a) n) n)).1 else zf po n
def slk (w b p : Nat → Int) (n : Nat) : Int := smN (fun k => if 0 < w k then b k - p k else 0) n
theorem smN_cong {f h : Nat → Int} : ∀ {m : Nat}, (∀ k, k < m → f k = h k) → smN f m = smN h m
  | 0, _ => rfl
  | m + 1, e => by
    show smN f m + f m = smN h m + h m
    rw [smN_cong (fun k hk => e k (by omega)), e m (by omega)]
theorem smN_upd {f h : Nat → Int} {j : Nat} {d : Int} : ∀ {m : Nat}, j < m → (∀ k, k ≠ j → f k = h k) → f j = h j + d → smN f m = smN h m + d
  | m + 1, hj, e, ej => by
    show smN f m + f m = smN h m + h m + d
    by_cases q : j = m
    · subst q
      rw [smN_cong (fun k hk => e k (by omega)), ej]
      omega
    · rw [smN_upd (show j < m by omega) e ej, e m (Ne.symm q)]
      omega
theorem gv1_slk {w b p : Nat → Int} {left : Int} {n : Nat} : ∀ m, m ≤ n → slk w b (gvN w b 1 p left m).1 n - (gvN w b 1 p left m).2 = slk w b p n - left
  | 0, _ => rfl
  | m + 1, hm => by
    have h := gv1_slk (w := w) (b := b) (p := p) (left := left) (n := n) m (by omega)
    rw [gvN_succ]
    split
    · rename_i hc
      have e : slk w b (updI (gvN w b 1 p left m).1 m ((gvN w b 1 p left m).1 m + 1)) n = slk w b (gvN w b 1 p left m).1 n + (-1) := by
        refine smN_upd (j := m) (by omega) (fun k hk => ?_) ?_
        · show (if 0 < w k then b k - updI _ m _ k else 0) = _
          unfold updI
          rw [if_neg hk]
        · show (if 0 < w m then b m - updI _ m _ m else 0) = (if 0 < w m then b m - (gvN w b 1 p left m).1 m else 0) + -1
          unfold updI
          rw [if_pos rfl, if_pos hc.1.1, if_pos hc.1.1]
          omega
      show slk w b (updI (gvN w b 1 p left m).1 m ((gvN w b 1 p left m).1 m + 1)) n - ((gvN w b 1 p left m).2 - 1) = _
      rw [e]
      omega
    · exact h
theorem gv1_same {w b p : Nat → Int} {left : Int} (hl : 0 < left) : ∀ m, (gvN w b 1 p left m).2 = left → (gvN w b 1 p left m).1 = p ∧ ∀ k, k < m → ¬ ct w b p k
  | 0, _ => ⟨rfl, fun k hk => by omega⟩
  | m + 1, e => by
    have hd := gvN_dec (w := w) (b := b) (show (0 : Int) ≤ 1 by omega) p left m
    rw [gvN_succ] at e ⊢
    split at e
    · have e2 : (gvN w b 1 p left m).2 - 1 = left := e
      omega
    · rename_i hc
      have h := gv1_same hl m e
      rw [if_neg hc]
      refine ⟨h.1, fun k hk => ?_⟩
      by_cases q : k = m
      · subst q
        intro hct
        refine hc ⟨?_, by omega⟩
        rw [h.1]
        exact hct
      · exact h.2 k (by omega)
theorem slk_0 {w b p : Nat → Int} : ∀ {n : Nat}, (∀ k, k < n → ¬ ct w b p k) → slk w b p n ≤ 0
  | 0, _ => Int.le_refl _
  | n + 1, h => by
    have h1 := slk_0 (n := n) (fun k hk => h k (by omega))
    have h2 := h n (by omega)
    show smN _ n + (if 0 < w n then b n - p n else 0) ≤ 0
    have h3 : slk w b p n = smN (fun k => if 0 < w k then b k - p k else 0) n := rfl
    split
    · rename_i hw
      have : ¬ p n < b n := fun q => h2 ⟨hw, q⟩
      omega
    · omega
def okM (w b : Nat → Int) (n : Nat) (x : (Nat → Int) × Int) : Prop := (∀ k, k < n → 0 ≤ x.1 k ∧ x.1 k ≤ b k) ∧ (0 ≤ x.2 ∧ x.2 ≤ 1000000000) ∧ x.2 ≤ slk w b x.1 n
theorem gv1_ok {w b : Nat → Int} {n : Nat} {x : (Nat → Int) × Int} (hx : okM w b n x) : ∀ m, m ≤ n → okM w b n (gvN w b 1 x.1 x.2 m)
  | 0, _ => hx
  | m + 1, hm => by
    have h := gv1_ok hx m (by omega)
    have hs := gv1_slk (w := w) (b := b) (p := x.1) (left := x.2) (m + 1) hm
    have hx2 := hx.2.2
    rw [gvN_succ] at hs ⊢
    split
    · rename_i hc
      rw [if_pos hc] at hs
      refine ⟨fun k hk => ?_, ?_, ?_⟩
      · show 0 ≤ updI _ m _ k ∧ updI _ m _ k ≤ b k
        have := h.1 k hk
        have h3 := hc.1.2
        unfold updI
        by_cases q : k = m
        · subst q
          rw [if_pos rfl]
          omega
        · rw [if_neg q]
          exact this
      · have := h.2.1
        have := hc.2
        show 0 ≤ (gvN w b 1 x.1 x.2 m).2 - 1 ∧ (gvN w b 1 x.1 x.2 m).2 - 1 ≤ _
        omega
      · omega
    · exact h
theorem gv1_lt {w b : Nat → Int} {n : Nat} {x : (Nat → Int) × Int} (hx : okM w b n x) (hl : 0 < x.2) : (gvN w b 1 x.1 x.2 n).2 < x.2 := by
  have hd := gvN_dec (w := w) (b := b) (show (0 : Int) ≤ 1 by omega) x.1 x.2 n
  by_cases e : (gvN w b 1 x.1 x.2 n).2 = x.2
  · have h := gv1_same hl n e
    have h2 := slk_0 h.2
    have := hx.2.2
    omega
  · omega
def wpM (S : St) (p : Nat → Int) : St := upT S 28 0 p
theorem wpM_self (S : St) : wpM S (S 28 0) = S := by
  funext a b c
  unfold wpM upT
  split
  · rename_i h; rw [h.1, h.2]
  · rfl
theorem wpM_28 (S : St) (p : Nat → Int) : wpM S p 28 0 = p := by
  unfold wpM upT
  rw [if_pos ⟨rfl, rfl⟩]
theorem wpM_up (S : St) (p : Nat → Int) (k : Nat) (v : Int) : up3 (wpM S p) 28 0 k v = wpM S (updI p k v) := by
  funext a b c
  unfold up3 wpM upT updI
  by_cases h : a = 28 ∧ b = 0
  · obtain ⟨rfl, rfl⟩ := h
    by_cases hc : c = k <;> simp [hc]
  · simp only [if_neg h, if_neg (fun q : a = 28 ∧ b = 0 ∧ c = k => h ⟨q.1, q.2.1⟩)]
theorem qm_0 (w b po : Nat → Int) (gv : Int) (n : Nat) : qm w b po gv n 0 = zf po n := by
  funext k
  unfold qm
  rw [if_neg (by omega)]
theorem qm_s (w b po : Nat → Int) (gv : Int) (n l : Nat) : updI (qm w b po gv n l) l (p0m w b po gv n l) = qm w b po gv n (l + 1) := by
  funext k
  unfold updI qm
  by_cases h : k = l
  · rw [if_pos h, if_pos (by omega), h]
  · rw [if_neg h]
    by_cases h2 : k < l
    · rw [if_pos h2, if_pos (by omega)]
    · rw [if_neg h2, if_neg (by omega)]
theorem qm_n (w b po : Nat → Int) (gv : Int) (n : Nat) : qm w b po gv n n = p0m w b po gv n := by
  funext k
  unfold qm
  by_cases h2 : k < n
  · rw [if_pos h2]
  · rw [if_neg h2]
    unfold zf p0m
    rw [if_neg h2, if_neg h2]
def okV (w b : Nat → Int) (n : Nat) (a : Int) : Prop := (∀ k, k < n → (0 ≤ w k ∧ w k ≤ 100000000) ∧ 0 ≤ b k ∧ b k ≤ 100000000) ∧ 0 ≤ a ∧ a ≤ 100000000
theorem all_rng {w b : Nat → Int} {n : Nat} {a : Int} (h : okV w b n a) (hn : n ≤ 10) : ∀ m, m ≤ n → (0 ≤ smN w m ∧ smN w m ≤ 1000000000) ∧ 0 ≤ allN w b m ∧ allN w b m ≤ 1000000000 := fun m hm => by
  have h1 := smN_nn (f := w) (B := 100000000) (m := m) (fun k hk => (h.1 k (by omega)).1)
  have h2 := smN_nn (f := fun k => if 0 < w k then b k else 0) (B := 100000000) (m := m) (fun k hk => by
    have := (h.1 k (by omega)).2
    split <;> omega)
  unfold allN
  omega
theorem by_rngM {w b : Nat → Int} {n : Nat} {a : Int} (h : okV w b n a) (hs : 0 < smN w n) {k : Nat} (hk : k < n) : (0 ≤ a * w k ∧ a * w k ≤ 10000000000000000) ∧ 0 ≤ a * w k / smN w n ∧ a * w k / smN w n ≤ a := by
  have h1 := h.1 k hk
  have m1 : 0 ≤ a * w k := Int.mul_nonneg h.2.1 h1.1.1
  have m2 : a * w k ≤ 100000000 * 100000000 := Int.mul_le_mul h.2.2 h1.1.2 h1.1.1 (by omega)
  have m3 : w k ≤ smN w n := smN_mem (fun j hj => (h.1 j hj).1.1) hk
  have m4 : a * w k ≤ a * smN w n := Int.mul_le_mul_of_nonneg_left m3 h.2.1
  exact ⟨⟨m1, by omega⟩, Int.ediv_nonneg m1 (by omega), Int.ediv_le_of_le_mul hs m4⟩
theorem okV_g {w b : Nat → Int} {n : Nat} {a : Int} (h : okV w b n a) (hn : n ≤ 10) : okV w b n (gvM w b n a) := by
  have h1 := all_rng h hn n (Nat.le_refl _)
  have h2 := h.2
  exact ⟨h.1, by unfold gvM; omega⟩
theorem smN_sub {f h : Nat → Int} : ∀ m, smN (fun k => f k - h k) m = smN f m - smN h m
  | 0 => rfl
  | m + 1 => by
    show smN (fun k => f k - h k) m + (f m - h m) = smN f m + f m - (smN h m + h m)
    rw [smN_sub m]
    omega
theorem p0m_ok {w b po : Nat → Int} {n : Nat} {a : Int} (h : okV w b n a) (hn : n ≤ 10) (hs : 0 < smN w n) : okM w b n (p0m w b po (gvM w b n a) n, gvM w b n a - smN (p0m w b po (gvM w b n a) n) n) := by
  have hg := okV_g h hn
  generalize hgv : gvM w b n a = gv at hg ⊢
  have hga : gv ≤ allN w b n := by rw [← hgv]; unfold gvM; omega
  have e : ∀ k, k < n → p0m w b po gv n k = min (gv * w k / smN w n) (b k) := fun k hk => by unfold p0m; rw [if_pos hk]
  have h1 : smN (p0m w b po gv n) n ≤ smN (fun k => gv * w k / smN w n) n := smN_le (fun k hk => by rw [e k hk]; exact Int.min_le_left _ _)
  have h2 := smN_div (w := w) (a := gv) hs n
  have h3 : smN (fun k => gv * w k / smN w n) n ≤ gv := Int.le_of_mul_le_mul_right h2 hs
  have hp : ∀ k, k < n → 0 ≤ p0m w b po gv n k ∧ p0m w b po gv n k ≤ b k := fun k hk => by
    rw [e k hk]
    have := by_rngM hg hs hk
    have h5 := h.1 k hk
    omega
  have h4 : 0 ≤ smN (p0m w b po gv n) n := (smN_nn (B := 100000000) (fun k hk => by have := hp k hk; have := (h.1 k hk).2; omega)).1
  have h6 := hg.2
  refine ⟨hp, ⟨by show 0 ≤ gv - _; omega, by show gv - _ ≤ _; omega⟩, ?_⟩
  show gv - smN (p0m w b po gv n) n ≤ slk w b (p0m w b po gv n) n
  have e7 : slk w b (p0m w b po gv n) n = allN w b n - smN (p0m w b po gv n) n := by
    unfold slk allN
    rw [← smN_sub]
    refine smN_cong (fun k hk => ?_)
    by_cases q : 0 < w k
    · rw [if_pos q, if_pos q]
    · rw [if_neg q, if_neg q, e k hk]
      have := h.1 k hk
      have hz : w k = 0 := by omega
      rw [hz, Int.mul_zero, Int.zero_ediv]
      omega
  omega
section XMPart
variable {g : Gl} {S : St} {Ret : Option AV → St → Prop} {Thr : String → St → Prop}
theorem m_part {w b po : Nat → Int} (e26 : S 26 0 = w) (e27 : S 27 0 = b) (e28 : S 28 0 = po) {a : Int} {n : Nat} (en9 : S 11 0 9 = n) (hn : n ≤ 10) (ha : okV w b n a) (h : Ret (some (vI (gvM w b n a))) (wpM S (fnM w b po n a))) : Cn g yX4_part cX4_part 14 (some .int) 0 0 0 [vR 11 0, vL a] S Ret Thr := by
  refine enter (L := [some (vR 11 0), some (vL a), none, none, none, none, none, none, none, none, none, none, none, none]) (by decide +kernel) (Nat.le_of_ble_eq_true rfl) rfl (fun K MM => ?_)
  have M := MM.mk
  have r26 : ∀ p, (wpM S p) 26 0 = w := fun p => e26
  have r27 : ∀ p, (wpM S p) 27 0 = b := fun p => e27
  have haa := ha.2
  have hg := okV_g ha hn
  have hall := all_rng ha hn
  have hgr := hg.2
  refine r_lconst0 M dX4_part_0 ?_
  refine r_lstore_3 M dX4_part_1 (by decide) rfl ?_
  refine r_lconst0 M dX4_part_2 ?_
  refine r_lstore_5 M dX4_part_3 (by decide) rfl ?_
  refine r_iconst M dX4_part_5 ?_
  refine r_istore_7 M dX4_part_6 (by decide) rfl ?_
  refine k_S (S1 := wpM S (zf po 0)) ?_ (by rw [zf_0, ← e28, wpM_self])
  refine fz (P := fun l => K 0 8 [some (vR 11 0), some (vL a), none, some (vL (smN w l)), none, some (vL (allN w b l)), none, some (vI (l : Int)), none, none, none, none, none, none] [] (wpM S (zf po l))) (m := n) ?_ ?_
  · have hA := hall n (Nat.le_refl _)
    have hend : ∀ c11 c12, K 0 175 [some (vR 11 0), some (vL a), none, some (vL (smN w n)), none, some (vL (allN w b n)), none, some (vL (if 0 < smN w n then gvM w b n a - smN (p0m w b po (gvM w b n a) n) n else gvM w b n a)), none, some (vL (gvM w b n a)), none, c11, c12, none] [] (wpM S (if 0 < smN w n then p0m w b po (gvM w b n a) n else zf po n)) := by
      -- the rounds of one coin each
      have hwh : ∀ (f : Nat) (x : (Nat → Int) × Int), okM w b n x → x.2 ≤ f → (0 ≤ x.2) → Ret (some (vI (gvM w b n a))) (wpM S (whM w b n f x).1) → ∀ c11 c12, K 0 175 [some (vR 11 0), some (vL a), none, some (vL (smN w n)), none, some (vL (allN w b n)), none, some (vL x.2), none, some (vL (gvM w b n a)), none, c11, c12, none] [] (wpM S x.1) := by
        intro f
        induction f with
        | zero =>
          intro x hx hf hx0 hR c11 c12
          have hx2 := hx.2.1
          refine r_lload M dX4_part_175 rfl ?_
          refine r_lconst0 M dX4_part_177 ?_
          refine r_lcmp M dX4_part_178 (by omega) ?_
          refine r_if_le M dX4_part_179 (tgt := 254) rfl (by omega) (fun b179 => ?_) (fun b179 => by omega)
          refine r_lload M dX4_part_254 rfl ?_
          refine r_l2i M dX4_part_256 ?_
          refine r_iret MM dX4_part_257 ?_
          exact hR
        | succ f ih =>
          intro x hx hf hx0 hR c11 c12
          have hx2 := hx.2.1
          by_cases hl : 0 < x.2
          · have hlt := gv1_lt hx hl
            have hok := gv1_ok hx n (Nat.le_refl _)
            have hR2 := hR
            unfold whM at hR2
            simp only [if_pos hl] at hR2
            refine r_lload M dX4_part_175 rfl ?_
            refine r_lconst0 M dX4_part_177 ?_
            refine r_lcmp M dX4_part_178 (by omega) ?_
            refine r_if_le M dX4_part_179 (tgt := 254) rfl (by omega) (fun b179 => by omega) (fun b179 => ?_)
            refine r_iconst M dX4_part_182 ?_
            refine r_istore_11 M dX4_part_183 (by decide) rfl ?_
            refine fz (P := fun l => K 0 185 [some (vR 11 0), some (vL a), none, some (vL (smN w n)), none, some (vL (allN w b n)), none, some (vL (gvN w b 1 x.1 x.2 l).2), none, some (vL (gvM w b n a)), none, some (vI (l : Int)), c12, none] [] (wpM S (gvN w b 1 x.1 x.2 l).1)) (m := n) ?_ ?_
            · refine r_iload M dX4_part_185 rfl ?_
              refine r_aload_n M dX4_part_187 rfl ?_
              refine r_getV M dX4_part_188 fk_X4_68 (by decide) rfl ((n : Int)) (by exact en9) ?_
              refine r_icmp_ge M dX4_part_191 (tgt := 251) rfl (by omega) (fun b191 => ?_) (fun b191 => by omega)
              refine r_goto M dX4_part_251 (tgt := 175) rfl ?_
              exact ih _ hok (by omega) hok.2.1.1 hR2 _ _
            · intro l hl9 hQ
              have hy := gv1_ok hx l (by omega)
              have hy2 := hy.2.1
              have hyl := hy.1 l hl9
              have hwl := ha.1 l hl9
              rw [gvN_succ] at hQ
              generalize hyy : gvN w b 1 x.1 x.2 l = y at *
              refine r_iload M dX4_part_185 rfl ?_
              refine r_aload_n M dX4_part_187 rfl ?_
              refine r_getV M dX4_part_188 fk_X4_68 (by decide) rfl ((n : Int)) (by exact en9) ?_
              refine r_icmp_ge M dX4_part_191 (tgt := 251) rfl (by omega) (fun b191 => by omega) (fun b191 => ?_)
              refine r_lload M dX4_part_194 rfl ?_
              refine r_lconst0 M dX4_part_196 ?_
              refine r_lcmp M dX4_part_197 (by omega) ?_
              refine r_if_le M dX4_part_198 (tgt := 245) rfl (by omega) (fun b198 => ?_) (fun b198 => ?_)
              · refine r_iinc_11 M (((l + 1 : Nat) : Int)) dX4_part_245 (by omega) (by decide) rfl ?_
                refine r_goto M dX4_part_248 (tgt := 185) rfl ?_
                first | (rw [if_pos (show ct w b y.1 l ∧ 1 ≤ y.2 by unfold ct; omega)] at hQ; exact k_S hQ (wpM_up _ _ _ _)) | (rw [if_neg (show ¬ (ct w b y.1 l ∧ 1 ≤ y.2) by unfold ct; omega)] at hQ; exact hQ)
              refine r_aload_n M dX4_part_201 rfl ?_
              refine r_getR M dX4_part_202 fk_X4_56 (by decide) rfl ?_
              refine r_iload M dX4_part_205 rfl ?_
              refine r_ialdV M (_) dX4_part_207 ⟨rfl, by decide⟩ (by decide) rfl (show (_ : Nat) < 10 by omega) (Nat.le_of_ble_eq_true rfl) (w l) (by rw [r26]) ?_
              refine r_if_le M dX4_part_208 (tgt := 245) rfl (by omega) (fun b208 => ?_) (fun b208 => ?_)
              · refine r_iinc_11 M (((l + 1 : Nat) : Int)) dX4_part_245 (by omega) (by decide) rfl ?_
                refine r_goto M dX4_part_248 (tgt := 185) rfl ?_
                first | (rw [if_pos (show ct w b y.1 l ∧ 1 ≤ y.2 by unfold ct; omega)] at hQ; exact k_S hQ (wpM_up _ _ _ _)) | (rw [if_neg (show ¬ (ct w b y.1 l ∧ 1 ≤ y.2) by unfold ct; omega)] at hQ; exact hQ)
              refine r_aload_n M dX4_part_211 rfl ?_
              refine r_getR M dX4_part_212 fk_X4_62 (by decide) rfl ?_
              refine r_iload M dX4_part_215 rfl ?_
              refine r_ialdV M (_) dX4_part_217 ⟨rfl, by decide⟩ (by decide) rfl (show (_ : Nat) < 10 by omega) (Nat.le_of_ble_eq_true rfl) (y.1 l) (by rw [wpM_28]) ?_
              refine r_aload_n M dX4_part_218 rfl ?_
              refine r_getR M dX4_part_219 fk_X4_59 (by decide) rfl ?_
              refine r_iload M dX4_part_222 rfl ?_
              refine r_ialdV M (_) dX4_part_224 ⟨rfl, by decide⟩ (by decide) rfl (show (_ : Nat) < 10 by omega) (Nat.le_of_ble_eq_true rfl) (b l) (by rw [r27]) ?_
              refine r_icmp_ge M dX4_part_225 (tgt := 245) rfl (by omega) (fun b225 => ?_) (fun b225 => ?_)
              · refine r_iinc_11 M (((l + 1 : Nat) : Int)) dX4_part_245 (by omega) (by decide) rfl ?_
                refine r_goto M dX4_part_248 (tgt := 185) rfl ?_
                first | (rw [if_pos (show ct w b y.1 l ∧ 1 ≤ y.2 by unfold ct; omega)] at hQ; exact k_S hQ (wpM_up _ _ _ _)) | (rw [if_neg (show ¬ (ct w b y.1 l ∧ 1 ≤ y.2) by unfold ct; omega)] at hQ; exact hQ)
              refine r_aload_n M dX4_part_228 rfl ?_
              refine r_getR M dX4_part_229 fk_X4_62 (by decide) rfl ?_
              refine r_iload M dX4_part_232 rfl ?_
              refine r_dup2 M dX4_part_234 ?_
              refine r_ialdV M (_) dX4_part_235 ⟨rfl, by decide⟩ (by decide) rfl (show (_ : Nat) < 10 by omega) (Nat.le_of_ble_eq_true rfl) (y.1 l) (by rw [wpM_28]) ?_
              refine r_iconst M dX4_part_236 ?_
              refine r_iadd M dX4_part_237 ?_
              refine r_iast M (_) dX4_part_238 ⟨rfl, by decide⟩ (by decide) rfl (show (_ : Nat) < 10 by omega) (Nat.le_of_ble_eq_true rfl) ?_
              refine r_lload M dX4_part_239 rfl ?_
              refine r_lconst1 M dX4_part_241 ?_
              refine r_lsub M dX4_part_242 ?_
              refine r_lstore_7 M dX4_part_243 (by decide) rfl ?_
              refine r_iinc_11 M (((l + 1 : Nat) : Int)) dX4_part_245 (by omega) (by decide) rfl ?_
              refine r_goto M dX4_part_248 (tgt := 185) rfl ?_
              first | (rw [if_pos (show ct w b y.1 l ∧ 1 ≤ y.2 by unfold ct; omega)] at hQ; exact k_S hQ (wpM_up _ _ _ _)) | (rw [if_neg (show ¬ (ct w b y.1 l ∧ 1 ≤ y.2) by unfold ct; omega)] at hQ; exact hQ)
          · have hR2 := hR
            unfold whM at hR2
            simp only [if_neg hl] at hR2
            refine r_lload M dX4_part_175 rfl ?_
            refine r_lconst0 M dX4_part_177 ?_
            refine r_lcmp M dX4_part_178 (by omega) ?_
            refine r_if_le M dX4_part_179 (tgt := 254) rfl (by omega) (fun b179 => ?_) (fun b179 => by omega)
            refine r_lload M dX4_part_254 rfl ?_
            refine r_l2i M dX4_part_256 ?_
            refine r_iret MM dX4_part_257 ?_
            exact hR2
      by_cases hs : 0 < smN w n
      · have h0 := p0m_ok (po := po) ha hn hs
        have h00 := h0.2.1.1
        simp only [if_pos hs]
        refine hwh (gvM w b n a - smN (p0m w b po (gvM w b n a) n) n).toNat _ h0 (by have : 0 ≤ gvM w b n a - smN (p0m w b po (gvM w b n a) n) n := h00; show gvM w b n a - smN (p0m w b po (gvM w b n a) n) n ≤ _; omega) h00 ?_
        unfold fnM at h
        rw [if_pos hs] at h
        exact h
      · have hz : allN w b n = 0 := by
          have hzz : ∀ k, k < n → w k = 0 := fun k hk => by
            have := smN_mem (f := w) (fun j hj => (ha.1 j hj).1.1) hk
            have := (ha.1 k hk).1
            omega
          unfold allN
          have : smN (fun k => if 0 < w k then b k else 0) n = smN (fun _ => 0) n := smN_cong (fun k hk => by rw [hzz k hk, if_neg (by omega)])
          rw [this]
          have : ∀ m, smN (fun _ => (0 : Int)) m = 0 := fun m => by
            induction m with
            | zero => rfl
            | succ m ih => show smN _ m + 0 = 0; rw [ih]; rfl
          exact this n
        have hgz : gvM w b n a = 0 := by unfold gvM; omega
        simp only [if_neg hs]
        unfold fnM at h
        rw [if_neg hs] at h
        intro c11 c12
        generalize gvM w b n a = gv at *
        refine r_lload M dX4_part_175 rfl ?_
        refine r_lconst0 M dX4_part_177 ?_
        refine r_lcmp M dX4_part_178 (by omega) ?_
        refine r_if_le M dX4_part_179 (tgt := 254) rfl (by omega) (fun b179 => ?_) (fun b179 => by omega)
        refine r_lload M dX4_part_254 rfl ?_
        refine r_l2i M dX4_part_256 ?_
        refine r_iret MM dX4_part_257 ?_
        exact h
    have hloop2 : ∀ c11 c12, K 0 91 [some (vR 11 0), some (vL a), none, some (vL (smN w n)), none, some (vL (allN w b n)), none, some (vL (gvM w b n a)), none, some (vL (gvM w b n a)), none, some (vI 0), c12, none] [] (wpM S (zf po n)) → K 0 88 [some (vR 11 0), some (vL a), none, some (vL (smN w n)), none, some (vL (allN w b n)), none, some (vL (gvM w b n a)), none, some (vL (gvM w b n a)), none, c11, c12, none] [] (wpM S (zf po n)) := by
      intro c11 c12 hK9
      refine r_iconst M dX4_part_88 ?_
      refine r_istore_11 M dX4_part_89 (by decide) rfl ?_
      exact hK9
    have h91 : ∀ c12, K 0 91 [some (vR 11 0), some (vL a), none, some (vL (smN w n)), none, some (vL (allN w b n)), none, some (vL (gvM w b n a)), none, some (vL (gvM w b n a)), none, some (vI 0), c12, none] [] (wpM S (zf po n)) := by
      by_cases hs : 0 < smN w n
      · simp only [if_pos hs] at hend
        have hlp := fz (P := fun l => ∀ c12, K 0 91 [some (vR 11 0), some (vL a), none, some (vL (smN w n)), none, some (vL (allN w b n)), none, some (vL (gvM w b n a - smN (p0m w b po (gvM w b n a) n) l)), none, some (vL (gvM w b n a)), none, some (vI (l : Int)), c12, none] [] (wpM S (qm w b po (gvM w b n a) n l))) (m := n) ?_ ?_
        · intro c12
          have h1 := hlp c12
          rw [qm_0, show gvM w b n a - smN (p0m w b po (gvM w b n a) n) 0 = gvM w b n a from by show _ - 0 = _; omega] at h1
          exact h1
        · intro c12
          rw [qm_n]
          refine r_iload M dX4_part_91 rfl ?_
          refine r_aload_n M dX4_part_93 rfl ?_
          refine r_getV M dX4_part_94 fk_X4_68 (by decide) rfl ((n : Int)) (by exact en9) ?_
          refine r_icmp_ge M dX4_part_97 (tgt := 175) rfl (by omega) (fun b97 => ?_) (fun b97 => by omega)
          exact hend _ _
        · intro l hl9 hP c12
          have hb := by_rngM hg hs hl9
          have hw9 := ha.1 l hl9
          have ep : p0m w b po (gvM w b n a) n l = min (gvM w b n a * w l / smN w n) (b l) := by unfold p0m; rw [if_pos hl9]
          have e9' : gvM w b n a - smN (p0m w b po (gvM w b n a) n) l - p0m w b po (gvM w b n a) n l = gvM w b n a - smN (p0m w b po (gvM w b n a) n) (l + 1) := by
            show _ = _ - (smN (p0m w b po (gvM w b n a) n) l + p0m w b po (gvM w b n a) n l)
            omega
          refine r_iload M dX4_part_91 rfl ?_
          refine r_aload_n M dX4_part_93 rfl ?_
          refine r_getV M dX4_part_94 fk_X4_68 (by decide) rfl ((n : Int)) (by exact en9) ?_
          refine r_icmp_ge M dX4_part_97 (tgt := 175) rfl (by omega) (fun b97 => by omega) (fun b97 => ?_)
          refine r_lload_n M dX4_part_100 rfl ?_
          refine r_lconst0 M dX4_part_101 ?_
          refine r_lcmp M dX4_part_102 (by omega) ?_
          refine r_if_le M dX4_part_103 (tgt := 175) rfl (by omega) (fun b103 => by omega) (fun b103 => ?_)
          refine r_lload M dX4_part_106 rfl ?_
          refine r_aload_n M dX4_part_108 rfl ?_
          refine r_getR M dX4_part_109 fk_X4_56 (by decide) rfl ?_
          refine r_iload M dX4_part_112 rfl ?_
          refine r_ialdV M (_) dX4_part_114 ⟨rfl, by decide⟩ (by decide) rfl (show (_ : Nat) < 10 by omega) (Nat.le_of_ble_eq_true rfl) (w l) (by rw [r26]) ?_
          refine r_i2l M dX4_part_115 (by omega) ?_
          refine r_lmul M dX4_part_116 ?_
          refine r_lload_n M dX4_part_117 rfl ?_
          refine r_ldiv M dX4_part_118 (by omega) ?_
          refine r_lstore_12 M dX4_part_119 (by decide) rfl ?_
          refine r_aload_n M dX4_part_121 rfl ?_
          refine r_getR M dX4_part_122 fk_X4_62 (by decide) rfl ?_
          refine r_iload M dX4_part_125 rfl ?_
          refine r_lload M dX4_part_127 rfl ?_
          refine r_aload_n M dX4_part_129 rfl ?_
          refine r_getR M dX4_part_130 fk_X4_59 (by decide) rfl ?_
          refine r_iload M dX4_part_133 rfl ?_
          refine r_ialdV M (_) dX4_part_135 ⟨rfl, by decide⟩ (by decide) rfl (show (_ : Nat) < 10 by omega) (Nat.le_of_ble_eq_true rfl) (b l) (by rw [r27]) ?_
          refine r_i2l M dX4_part_136 (by omega) ?_
          refine r_lcmp M dX4_part_137 (by omega) ?_
          refine r_if_ge M dX4_part_138 (tgt := 146) rfl (by omega) (fun b138 => ?_) (fun b138 => ?_)
          · refine r_aload_n M dX4_part_146 rfl ?_
            refine r_getR M dX4_part_147 fk_X4_59 (by decide) rfl ?_
            refine r_iload M dX4_part_150 rfl ?_
            refine r_ialdV M (_) dX4_part_152 ⟨rfl, by decide⟩ (by decide) rfl (show (_ : Nat) < 10 by omega) (Nat.le_of_ble_eq_true rfl) (b l) (by rw [r27]) ?_
            refine r_i2l M dX4_part_153 (by omega) ?_
            refine r_l2i M dX4_part_154 ?_
            refine r_iast M (_) dX4_part_155 ⟨rfl, by decide⟩ (by decide) rfl (show (_ : Nat) < 10 by omega) (Nat.le_of_ble_eq_true rfl) ?_
            refine r_lload M dX4_part_156 rfl ?_
            refine r_aload_n M dX4_part_158 rfl ?_
            refine r_getR M dX4_part_159 fk_X4_62 (by decide) rfl ?_
            refine r_iload M dX4_part_162 rfl ?_
            refine r_ialdV M (_) dX4_part_164 ⟨rfl, by decide⟩ (by decide) rfl (show (_ : Nat) < 10 by omega) (Nat.le_of_ble_eq_true rfl) (p0m w b po (gvM w b n a) n l) (by rw [wpM_up, wpM_28, ep]; unfold updI; rw [if_pos rfl]; omega) ?_
            refine r_i2l M dX4_part_165 (by omega) ?_
            refine r_lsub M dX4_part_166 ?_
            refine r_lstore_7 M dX4_part_167 (by decide) rfl ?_
            refine r_iinc_11 M (_) dX4_part_169 rfl (by decide) rfl ?_
            refine r_goto M dX4_part_172 (tgt := 91) rfl ?_
            rw [e9']; exact k_S (hP _) (by rw [wpM_up, ← qm_s, ep]; congr 2; omega)
          refine r_lload M dX4_part_141 rfl ?_
          refine r_goto M dX4_part_143 (tgt := 154) rfl ?_
          refine r_l2i M dX4_part_154 ?_
          refine r_iast M (_) dX4_part_155 ⟨rfl, by decide⟩ (by decide) rfl (show (_ : Nat) < 10 by omega) (Nat.le_of_ble_eq_true rfl) ?_
          refine r_lload M dX4_part_156 rfl ?_
          refine r_aload_n M dX4_part_158 rfl ?_
          refine r_getR M dX4_part_159 fk_X4_62 (by decide) rfl ?_
          refine r_iload M dX4_part_162 rfl ?_
          refine r_ialdV M (_) dX4_part_164 ⟨rfl, by decide⟩ (by decide) rfl (show (_ : Nat) < 10 by omega) (Nat.le_of_ble_eq_true rfl) (p0m w b po (gvM w b n a) n l) (by rw [wpM_up, wpM_28, ep]; unfold updI; rw [if_pos rfl]; omega) ?_
          refine r_i2l M dX4_part_165 (by omega) ?_
          refine r_lsub M dX4_part_166 ?_
          refine r_lstore_7 M dX4_part_167 (by decide) rfl ?_
          refine r_iinc_11 M (_) dX4_part_169 rfl (by decide) rfl ?_
          refine r_goto M dX4_part_172 (tgt := 91) rfl ?_
          rw [e9']; exact k_S (hP _) (by rw [wpM_up, ← qm_s, ep]; congr 2; omega)
      · simp only [if_neg hs] at hend
        intro c12
        refine r_iload M dX4_part_91 rfl ?_
        refine r_aload_n M dX4_part_93 rfl ?_
        refine r_getV M dX4_part_94 fk_X4_68 (by decide) rfl ((n : Int)) (by exact en9) ?_
        refine r_icmp_ge M dX4_part_97 (tgt := 175) rfl (by omega) (fun b97 => ?_) (fun b97 => ?_)
        · exact hend _ _
        refine r_lload_n M dX4_part_100 rfl ?_
        refine r_lconst0 M dX4_part_101 ?_
        refine r_lcmp M dX4_part_102 (by omega) ?_
        refine r_if_le M dX4_part_103 (tgt := 175) rfl (by omega) (fun b103 => ?_) (fun b103 => by omega)
        exact hend _ _
    have h88 : ∀ c11 c12, K 0 88 [some (vR 11 0), some (vL a), none, some (vL (smN w n)), none, some (vL (allN w b n)), none, some (vL (gvM w b n a)), none, some (vL (gvM w b n a)), none, c11, c12, none] [] (wpM S (zf po n)) := fun c11 c12 => hloop2 c11 c12 (h91 c12)
    refine r_iload M dX4_part_8 rfl ?_
    refine r_aload_n M dX4_part_10 rfl ?_
    refine r_getV M dX4_part_11 fk_X4_68 (by decide) rfl ((n : Int)) (by exact en9) ?_
    refine r_icmp_ge M dX4_part_14 (tgt := 69) rfl (by omega) (fun b14 => ?_) (fun b14 => by omega)
    refine r_lload_n M dX4_part_69 rfl ?_
    refine r_lload M dX4_part_70 rfl ?_
    refine r_lcmp M dX4_part_72 (by omega) ?_
    refine r_if_ge M dX4_part_73 (tgt := 80) rfl (by omega) (fun b73 => ?_) (fun b73 => ?_)
    · refine r_lload M dX4_part_80 rfl ?_
      refine r_lstore_7 M dX4_part_82 (by decide) rfl ?_
      refine r_lload M dX4_part_84 rfl ?_
      refine r_lstore_9 M dX4_part_86 (by decide) rfl ?_
      first | (have e9 : gvM w b n a = a := (by unfold gvM; omega); have h9 := h88 none none; rw [e9] at h9; exact h9) | (have e9 : gvM w b n a = allN w b n := (by unfold gvM; omega); have h9 := h88 none none; rw [e9] at h9; exact h9)
    refine r_lload_n M dX4_part_76 rfl ?_
    refine r_goto M dX4_part_77 (tgt := 82) rfl ?_
    refine r_lstore_7 M dX4_part_82 (by decide) rfl ?_
    refine r_lload M dX4_part_84 rfl ?_
    refine r_lstore_9 M dX4_part_86 (by decide) rfl ?_
    first | (have e9 : gvM w b n a = a := (by unfold gvM; omega); have h9 := h88 none none; rw [e9] at h9; exact h9) | (have e9 : gvM w b n a = allN w b n := (by unfold gvM; omega); have h9 := h88 none none; rw [e9] at h9; exact h9)
  · intro l hl9 hP
    have hA := hall l (by omega)
    have hwl := ha.1 l hl9
    have e1 : smN w (l + 1) = smN w l + w l := rfl
    have e2 : allN w b (l + 1) = allN w b l + (if 0 < w l then b l else 0) := rfl
    rw [e1, e2] at hP
    refine r_iload M dX4_part_8 rfl ?_
    refine r_aload_n M dX4_part_10 rfl ?_
    refine r_getV M dX4_part_11 fk_X4_68 (by decide) rfl ((n : Int)) (by exact en9) ?_
    refine r_icmp_ge M dX4_part_14 (tgt := 69) rfl (by omega) (fun b14 => by omega) (fun b14 => ?_)
    refine r_lload_n M dX4_part_17 rfl ?_
    refine r_aload_n M dX4_part_18 rfl ?_
    refine r_getR M dX4_part_19 fk_X4_56 (by decide) rfl ?_
    refine r_iload M dX4_part_22 rfl ?_
    refine r_ialdV M (_) dX4_part_24 ⟨rfl, by decide⟩ (by decide) rfl (show (_ : Nat) < 10 by omega) (Nat.le_of_ble_eq_true rfl) (w l) (by rw [r26]) ?_
    refine r_i2l M dX4_part_25 (by omega) ?_
    refine r_ladd M dX4_part_26 ?_
    refine r_lstore_3 M dX4_part_27 (by decide) rfl ?_
    refine r_lload M dX4_part_28 rfl ?_
    refine r_aload_n M dX4_part_30 rfl ?_
    refine r_getR M dX4_part_31 fk_X4_56 (by decide) rfl ?_
    refine r_iload M dX4_part_34 rfl ?_
    refine r_ialdV M (_) dX4_part_36 ⟨rfl, by decide⟩ (by decide) rfl (show (_ : Nat) < 10 by omega) (Nat.le_of_ble_eq_true rfl) (w l) (by rw [r26]) ?_
    refine r_if_le M dX4_part_37 (tgt := 51) rfl (by omega) (fun b37 => ?_) (fun b37 => ?_)
    · refine r_lconst0 M dX4_part_51 ?_
      refine r_ladd M dX4_part_52 ?_
      refine r_lstore_5 M dX4_part_53 (by decide) rfl ?_
      refine r_aload_n M dX4_part_55 rfl ?_
      refine r_getR M dX4_part_56 fk_X4_62 (by decide) rfl ?_
      refine r_iload M dX4_part_59 rfl ?_
      refine r_iconst M dX4_part_61 ?_
      refine r_iast M (_) dX4_part_62 ⟨rfl, by decide⟩ (by decide) rfl (show (_ : Nat) < 10 by omega) (Nat.le_of_ble_eq_true rfl) ?_
      refine r_iinc_7 M (_) dX4_part_63 rfl (by decide) rfl ?_
      refine r_goto M dX4_part_66 (tgt := 8) rfl ?_
      first | (rw [if_pos b37] at hP; exact k_S hP (by rw [wpM_up, zf_s])) | (rw [if_neg (by omega)] at hP; exact k_S hP (by rw [wpM_up, zf_s]))
    refine r_aload_n M dX4_part_40 rfl ?_
    refine r_getR M dX4_part_41 fk_X4_59 (by decide) rfl ?_
    refine r_iload M dX4_part_44 rfl ?_
    refine r_ialdV M (_) dX4_part_46 ⟨rfl, by decide⟩ (by decide) rfl (show (_ : Nat) < 10 by omega) (Nat.le_of_ble_eq_true rfl) (b l) (by rw [r27]) ?_
    refine r_i2l M dX4_part_47 (by omega) ?_
    refine r_goto M dX4_part_48 (tgt := 52) rfl ?_
    refine r_ladd M dX4_part_52 ?_
    refine r_lstore_5 M dX4_part_53 (by decide) rfl ?_
    refine r_aload_n M dX4_part_55 rfl ?_
    refine r_getR M dX4_part_56 fk_X4_62 (by decide) rfl ?_
    refine r_iload M dX4_part_59 rfl ?_
    refine r_iconst M dX4_part_61 ?_
    refine r_iast M (_) dX4_part_62 ⟨rfl, by decide⟩ (by decide) rfl (show (_ : Nat) < 10 by omega) (Nat.le_of_ble_eq_true rfl) ?_
    refine r_iinc_7 M (_) dX4_part_63 rfl (by decide) rfl ?_
    refine r_goto M dX4_part_66 (tgt := 8) rfl ?_
    first | (rw [if_pos b37] at hP; exact k_S hP (by rw [wpM_up, zf_s])) | (rw [if_neg (by omega)] at hP; exact k_S hP (by rw [wpM_up, zf_s]))
end XMPart
