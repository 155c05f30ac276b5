/-! ===== what a parting gives: all of it, nothing to those without weight, and full bounds where something is left ===== -/
theorem gvN_sum (w b : Nat → Int) (coins : Int) (p : Nat → Int) (left : Int) : ∀ m, m ≤ 10 → smN (gvN w b coins p left m).1 10 + (gvN w b coins p left m).2 = smN p 10 + left
  | 0, _ => rfl
  | m + 1, hm => by
    have h := gvN_sum w b coins p left m (by omega)
    rw [gvN_succ]
    split
    · have e : smN (updI (gvN w b coins p left m).1 m ((gvN w b coins p left m).1 m + coins)) 10 = smN (gvN w b coins p left m).1 10 + coins := smN_upd (j := m) (by omega) (fun k hk => by unfold updI; rw [if_neg hk]) (by unfold updI; rw [if_pos rfl])
      show smN (updI (gvN w b coins p left m).1 m ((gvN w b coins p left m).1 m + coins)) 10 + ((gvN w b coins p left m).2 - coins) = _
      rw [e]
      omega
    · exact h
theorem strokes_sum (w b : Nat → Int) (x : (Nat → Int) × Int) : ∀ n, smN (strokes w b x n).1 10 + (strokes w b x n).2 = smN x.1 10 + x.2
  | 0 => rfl
  | n + 1 => by
    have h := strokes_sum w b x n
    rw [strokes_succ]
    split
    · have h2 := gvN_sum w b (rounds w b (strokes w b x n).1 (strokes w b x n).2) (strokes w b x n).1 (strokes w b x n).2 10 (Nat.le_refl _)
      exact h2.trans h
    · exact h
theorem strokes_hi (w b : Nat → Int) (x : (Nat → Int) × Int) {k : Nat} (hk : 10 ≤ k) : ∀ n, (strokes w b x n).1 k = x.1 k
  | 0 => rfl
  | n + 1 => by
    have h := strokes_hi w b x hk n
    rw [strokes_succ]
    split
    · exact (gvN_hi w b _ _ _ 10 k hk).trans h
    · exact h
theorem gvN_zero {w b : Nat → Int} {coins : Int} {p : Nat → Int} {left : Int} {k : Nat} (hk : ¬ 0 < w k) : ∀ m, (gvN w b coins p left m).1 k = p k
  | 0 => rfl
  | m + 1 => by
    have h := gvN_zero (b := b) (coins := coins) (p := p) (left := left) hk m
    rw [gvN_succ]
    split
    · rename_i hc
      have e : ¬ k = m := fun q => hk (by rw [q]; exact hc.1.1)
      show updI _ m _ k = _
      unfold updI
      rw [if_neg e]
      exact h
    · exact h
theorem strokes_zero {w b : Nat → Int} {x : (Nat → Int) × Int} {k : Nat} (hk : ¬ 0 < w k) : ∀ n, (strokes w b x n).1 k = x.1 k
  | 0 => rfl
  | n + 1 => by
    have h := strokes_zero (b := b) (x := x) hk n
    rw [strokes_succ]
    split
    · exact (gvN_zero hk 10).trans h
    · exact h
theorem zf_0k (po : Nat → Int) {k : Nat} (hk : k < 10) : zf po 10 k = 0 := by
  unfold zf
  rw [if_pos hk]
theorem smN_z {f : Nat → Int} : ∀ {m : Nat}, (∀ k, k < m → f k = 0) → smN f m = 0
  | 0, _ => rfl
  | m + 1, h => by
    have h1 := smN_z (m := m) (fun k hk => h k (by omega))
    have h2 := h m (by omega)
    show smN f m + f m = 0
    omega
theorem smN_cut {f : Nat → Int} {n : Nat} : ∀ {m : Nat}, n ≤ m → (∀ k, n ≤ k → k < m → f k = 0) → smN f m = smN f n
  | 0, h, _ => by rw [show n = 0 by omega]
  | m + 1, h, hz => by
    by_cases e : n = m + 1
    · rw [e]
    · have h1 := smN_cut (m := m) (by omega) (fun k a c => hz k a (by omega))
      have h2 := hz m (by omega) (by omega)
      show smN f m + f m = _
      omega
theorem smN_add (f h : Nat → Int) : ∀ m, smN (fun k => f k + h k) m = smN f m + smN h m
  | 0 => rfl
  | m + 1 => by
    have h1 := smN_add f h m
    show smN (fun k => f k + h k) m + (f m + h m) = smN f m + f m + (smN h m + h m)
    omega
theorem partR_sum (w b po : Nat → Int) (a : Int) : smN (partR w b po a).1 10 + (partR w b po a).2 = a := by
  unfold partR
  split
  · have e := smN_z (f := zf po 10) (m := 10) (fun k hk => zf_0k po hk)
    show smN (zf po 10) 10 + a = a
    omega
  · rw [strokes_sum]
    show smN (p0f w b po a) 10 + (a - smN (p0f w b po a) 10) = a
    omega
theorem p0f_hi (w b po : Nat → Int) (a : Int) {k : Nat} (hk : 10 ≤ k) : p0f w b po a k = po k := by
  unfold p0f
  rw [if_neg (by omega)]
theorem partR_hi (w b po : Nat → Int) (a : Int) {k : Nat} (hk : 10 ≤ k) : (partR w b po a).1 k = po k := by
  unfold partR
  split
  · show zf po 10 k = _
    unfold zf
    rw [if_neg (by omega)]
  · rw [strokes_hi w b _ hk]
    exact p0f_hi w b po a hk
theorem partR_po {w b po po' : Nat → Int} {a : Int} (h : ∀ k, 10 ≤ k → po k = po' k) : partR w b po a = partR w b po' a := by
  have e1 : zf po 10 = zf po' 10 := by
    funext k
    unfold zf
    split
    · rfl
    · exact h k (by omega)
  have e2 : p0f w b po a = p0f w b po' a := by
    funext k
    unfold p0f
    split
    · rfl
    · exact h k (by omega)
  unfold partR
  rw [e1, e2]
theorem partR_zero {w b po : Nat → Int} {a : Int} (h : okW w b a) {k : Nat} (hk : k < 10) (hz : w k = 0) : (partR w b po a).1 k = 0 := by
  unfold partR
  split
  · exact zf_0k po hk
  · rw [strokes_zero (by omega)]
    show p0f w b po a k = 0
    unfold p0f
    have hb := (h.1 k hk).2
    rw [if_pos hk, hz, Int.mul_zero, Int.zero_ediv]
    omega
theorem partR_full {w b po : Nat → Int} {a : Int} (h : okW w b a) (hl : 0 < (partR w b po a).2) {k : Nat} (hk : k < 10) (hw : 0 < w k) : (partR w b po a).1 k = b k := by
  have hok := (partR_ok (po := po) h).1 k hk
  have hs := smN_mem (f := w) (m := 10) (k := k) (fun j hj => (h.1 j hj).1.1) hk
  unfold partR at hl hok ⊢
  rw [if_neg (by omega)] at hl hok ⊢
  obtain ⟨N, -, hm⟩ := strokes12 (w := w) (b := b) (p0f w b po a, a - smN (p0f w b po a) 10)
  unfold muN at hm
  have hr := tkN_rng w b (strokes w b (p0f w b po a, a - smN (p0f w b po a) 10) 12).1 10
  have hT : tkN w b (strokes w b (p0f w b po a, a - smN (p0f w b po a) 10) 12).1 10 = 0 := by
    split at hm
    · omega
    · split at hm <;> omega
  have hn := tkN_z hT hk
  have : ¬ (strokes w b (p0f w b po a, a - smN (p0f w b po a) 10) 12).1 k < b k := fun q => hn ⟨hw, q⟩
  omega
/-! ===== the same among members ===== -/
def Z8 (S : St) : Prop := ∀ k : Nat, k < 10 → S 0 0 3 ≤ k → S 8 0 k = 0
theorem ent8 {S : St} {w b : Nat → Int} {k : Nat} (hk : k < cN S) : entS S w b (cN S) 8 0 k = w k := by
  show (if (0 : Nat) = 0 ∧ k < cN S then w k else S 8 0 k) = _
  rw [if_pos ⟨rfl, hk⟩]
theorem ent9 {S : St} {w b : Nat → Int} {k : Nat} (hk : k < cN S) : entS S w b (cN S) 9 0 k = b k := by
  show (if (0 : Nat) = 0 ∧ k < cN S then b k else S 9 0 k) = _
  rw [if_pos ⟨rfl, hk⟩]
theorem ent8n {S : St} {w b : Nat → Int} {k : Nat} (hk : ¬ k < cN S) : entS S w b (cN S) 8 0 k = S 8 0 k := by
  show (if (0 : Nat) = 0 ∧ k < cN S then w k else S 8 0 k) = _
  rw [if_neg (fun q => hk q.2)]
section PRS
variable {S : St} {w b : Nat → Int} {a : Int}
theorem prS_ok (hI : CI S) (hw : ∀ k, k < 10 → (0 ≤ w k ∧ w k ≤ 100000000) ∧ 0 ≤ b k ∧ b k ≤ 100000000) (ha : 0 ≤ a ∧ a ≤ 100000000) : okW (entS S w b (cN S) 8 0) (entS S w b (cN S) 9 0) a := okW_ent hI.2.2.2.2.2.1 hw ha
theorem prS_rng (hI : CI S) (hw : ∀ k, k < 10 → (0 ≤ w k ∧ w k ≤ 100000000) ∧ 0 ≤ b k ∧ b k ≤ 100000000) (ha : 0 ≤ a ∧ a ≤ 100000000) : (∀ k, k < cN S → 0 ≤ (prS S w b a).1 k ∧ (prS S w b a).1 k ≤ b k) ∧ 0 ≤ (prS S w b a).2 ∧ (prS S w b a).2 ≤ a := by
  have hp := partR_ok (po := S 10 0) (prS_ok hI hw ha)
  have hc := cN_le hI
  refine ⟨fun k hk => ?_, hp.2⟩
  have h := hp.1 k (by omega)
  rw [ent9 hk] at h
  exact h
theorem prS_sum (hI : CI S) (hZ : Z8 S) (hw : ∀ k, k < 10 → (0 ≤ w k ∧ w k ≤ 100000000) ∧ 0 ≤ b k ∧ b k ≤ 100000000) (ha : 0 ≤ a ∧ a ≤ 100000000) : smN (prS S w b a).1 (cN S) + (prS S w b a).2 = a := by
  have hc := cN_le hI
  have he := cN_eq hI
  have e : smN (prS S w b a).1 10 = smN (prS S w b a).1 (cN S) := smN_cut hc (fun k h1 h2 => partR_zero (prS_ok hI hw ha) h2 (by rw [ent8n (by omega)]; exact hZ k h2 (by omega)))
  rw [← e]
  exact partR_sum _ _ _ _
theorem prS_zero (hI : CI S) (hw : ∀ k, k < 10 → (0 ≤ w k ∧ w k ≤ 100000000) ∧ 0 ≤ b k ∧ b k ≤ 100000000) (ha : 0 ≤ a ∧ a ≤ 100000000) {k : Nat} (hk : k < cN S) (hz : w k = 0) : (prS S w b a).1 k = 0 := by
  have hc := cN_le hI
  exact partR_zero (prS_ok hI hw ha) (by omega) (by rw [ent8 hk]; exact hz)
theorem prS_full (hI : CI S) (hw : ∀ k, k < 10 → (0 ≤ w k ∧ w k ≤ 100000000) ∧ 0 ≤ b k ∧ b k ≤ 100000000) (ha : 0 ≤ a ∧ a ≤ 100000000) (hl : 0 < (prS S w b a).2) {k : Nat} (hk : k < cN S) (hz : 0 < w k) : (prS S w b a).1 k = b k := by
  have hc := cN_le hI
  have h := partR_full (po := S 10 0) (prS_ok hI hw ha) hl (show k < 10 by omega) (by rw [ent8 hk]; exact hz)
  rw [ent9 hk] at h
  exact h
end PRS
theorem eat_8 (S : St) (w b : Nat → Int) (a : Int) (fld : Nat) (f : Nat → Int) (k : Nat) : eatS S w b a fld f 8 0 k = entS S w b (cN S) 8 0 k := rfl
theorem eat_0 (S : St) (w b : Nat → Int) (a : Int) (fld : Nat) (f : Nat → Int) (k : Nat) : eatS S w b a fld f 0 0 k = S 0 0 k := rfl
theorem Z8_eat {S : St} (hZ : Z8 S) (w b : Nat → Int) (a : Int) (fld : Nat) (f : Nat → Int) : Z8 (eatS S w b a fld f) := fun k hk hc => by
  rw [eat_0] at hc
  have hn : ¬ k < cN S := by unfold cN; omega
  rw [eat_8, ent8n hn]
  exact hZ k hk hc
/-! ===== size, twice ===== -/
theorem sz_4 (S : St) (i k : Nat) : szS S 4 i k = if k = 5 ∧ i < cN S then S 4 i 5 + grw S i else S 4 i k := eat_4 _ _ _ _ _ _ _ _
theorem sz_n (S : St) : cN (szS S) = cN S := rfl
theorem sz_act (S : St) (i : Nat) : actv (szS S) i = actv S i := by
  unfold actv
  rw [sz_4, if_neg (by omega)]
theorem sz_need (S : St) : need (szS S) = need S := by
  have e : tsF (szS S) = tsF S := by
    funext i
    have h3 : szS S 4 i 3 = S 4 i 3 := by rw [sz_4, if_neg (by omega)]
    have h8 : szS S 4 i 8 = S 4 i 8 := by rw [sz_4, if_neg (by omega)]
    show (if (szS S 4 i 3 = 0 ∨ szS S 4 i 3 = 1) then szS S 4 i 8 else 0) = (if (S 4 i 3 = 0 ∨ S 4 i 3 = 1) then S 4 i 8 else 0)
    rw [h3, h8]
  unfold need
  rw [e, sz_n]
theorem sz_szW (S : St) : szW (szS S) = szW S := by
  funext i
  have h3 : szS S 4 i 3 = S 4 i 3 := by rw [sz_4, if_neg (by omega)]
  have h8 : szS S 4 i 4 = S 4 i 4 := by rw [sz_4, if_neg (by omega)]
  show (if (szS S 4 i 3 = 0 ∨ szS S 4 i 3 = 1) then szS S 4 i 4 else 0) = (if (S 4 i 3 = 0 ∨ S 4 i 3 = 1) then S 4 i 4 else 0)
  rw [h3, h8]
theorem sz_pr (S : St) : prS (szS S) (szW (szS S)) (fun _ => need (szS S)) (need (szS S)) = prS S (szW S) (fun _ => need S) (need S) := by
  rw [sz_need, sz_szW]
  have e8 : entS (szS S) (szW S) (fun _ => need S) (cN (szS S)) 8 0 = entS S (szW S) (fun _ => need S) (cN S) 8 0 := by
    funext k
    show (if (0 : Nat) = 0 ∧ k < cN S then szW S k else entS S (szW S) (fun _ => need S) (cN S) 8 0 k) = _
    by_cases q : k < cN S
    · rw [if_pos ⟨rfl, q⟩, ent8 q]
    · rw [if_neg (fun z => q z.2)]
  have e9 : entS (szS S) (szW S) (fun _ => need S) (cN (szS S)) 9 0 = entS S (szW S) (fun _ => need S) (cN S) 9 0 := by
    funext k
    show (if (0 : Nat) = 0 ∧ k < cN S then need S else entS S (szW S) (fun _ => need S) (cN S) 9 0 k) = _
    by_cases q : k < cN S
    · rw [if_pos ⟨rfl, q⟩, ent9 q]
    · rw [if_neg (fun z => q z.2)]
  unfold prS
  rw [e8, e9]
  exact partR_po (fun k hk => partR_hi _ _ _ _ hk)
theorem sz_grw (S : St) {i : Nat} (hi : i < cN S) : grw (szS S) i = 0 := by
  have e : grw (szS S) i = max 0 ((prS (szS S) (szW (szS S)) (fun _ => need (szS S)) (need (szS S))).1 i - szS S 4 i 5) := rfl
  rw [e, sz_pr, sz_4, if_pos ⟨rfl, hi⟩]
  unfold grw
  omega
theorem sz_sm2 (S : St) : smN (grw (szS S)) (cN (szS S)) = 0 := smN_z (fun k hk => sz_grw S hk)
def fuN (S : St) : Nat → Int
  | 0 => S 0 0 4
  | l + 1 => fuN S l + (S 4 l 5 + S 4 l 7 - S 4 l 10)
theorem sz_fuN (S : St) : ∀ l, l ≤ cN S → fuN (szS S) l = fuN S l + smN (grw S) l
  | 0, _ => by
    show S 0 0 4 = S 0 0 4 + 0
    omega
  | l + 1, h => by
    have ih := sz_fuN S l (by omega)
    show fuN (szS S) l + (szS S 4 l 5 + szS S 4 l 7 - szS S 4 l 10) = fuN S l + (S 4 l 5 + S 4 l 7 - S 4 l 10) + (smN (grw S) l + grw S l)
    rw [ih, sz_4, sz_4, sz_4, if_pos ⟨rfl, by omega⟩, if_neg (by omega), if_neg (by omega)]
    omega
