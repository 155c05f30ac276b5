/-! ===== the reference: close ===== -/
def awM (S : St) : Nat → St × Int
  | 0 => (S, 0)
  | l + 1 => if wmr S l = -1 then ((awM S l).1, (awM S l).2 + 1000) else (up3 (awM S l).1 20 0 (wmr S l).toNat ((awM S l).1 20 0 (wmr S l).toNat + 1), (awM S l).2 + -(S 24 0 (10 * l + (wmr S l).toNat)))
theorem awM_succ (S : St) (l : Nat) : awM S (l + 1) = if wmr S l = -1 then ((awM S l).1, (awM S l).2 + 1000) else (up3 (awM S l).1 20 0 (wmr S l).toNat ((awM S l).1 20 0 (wmr S l).toNat + 1), (awM S l).2 + -(S 24 0 (10 * l + (wmr S l).toNat))) := rfl
theorem awM_keep (S : St) : ∀ l t, t ≠ 20 → (awM S l).1 t = S t
  | 0, _, _ => rfl
  | l + 1, t, ht => by
    have h := awM_keep S l t ht
    rw [awM_succ]
    split
    · exact h
    · rw [← h]
      funext a b
      simp [up3, ht]
theorem wmN_c {S S' : St} (h : S' 24 = S 24) (lot : Nat) : ∀ k, wmN S' lot k = wmN S lot k
  | 0 => rfl
  | k + 1 => by rw [wmN_succ, wmN_succ, wmN_c h lot k, h]
theorem wmr_c {S S' : St} (h : S' 24 = S 24) (h11 : S' 11 = S 11) (lot : Nat) : wmr S' lot = wmr S lot := by
  unfold wmr nM
  rw [h11, wmN_c h]
theorem wmr_rng {S : St} (hm : 0 ≤ S 11 0 9 ∧ S 11 0 9 ≤ 10) (lot : Nat) : wmr S lot = -1 ∨ 0 ≤ wmr S lot ∧ wmr S lot < 10 := by
  have h := wmN_rng S lot (nM S)
  have h2 := nM_le hm
  unfold wmr
  omega
theorem awM_rng {S : St} (hm : 0 ≤ S 11 0 9 ∧ S 11 0 9 ≤ 10) (hB : mB S) : ∀ l : Nat, l ≤ 120 → -(5000 * (l : Int)) ≤ (awM S l).2 ∧ (awM S l).2 ≤ 1000 * l
  | 0, _ => by show -(5000 * (0 : Int)) ≤ 0 ∧ (0 : Int) ≤ 1000 * 0; omega
  | l + 1, hl => by
    have h := awM_rng hm hB l (by omega)
    rw [awM_succ]
    split
    · show _ ≤ (awM S l).2 + 1000 ∧ (awM S l).2 + 1000 ≤ _
      omega
    · have hw := wmr_rng hm l
      have hb := hB (10 * l + (wmr S l).toNat) (by omega)
      show _ ≤ (awM S l).2 + -(S 24 0 (10 * l + (wmr S l).toNat)) ∧ (awM S l).2 + -(S 24 0 (10 * l + (wmr S l).toNat)) ≤ _
      omega
theorem tdN_c {S S' : St} (h : S' 24 = S 24) (i : Nat) : ∀ l, tdN S' i l = tdN S i l
  | 0 => rfl
  | l + 1 => by
    unfold tdN
    rw [h, tdN_c h i l]
theorem loN_c {S S' : St} (h : S' 24 = S 24) (h11 : S' 11 = S 11) (i : Nat) : ∀ l, loN S' i l = loN S i l
  | 0 => rfl
  | l + 1 => by
    unfold loN loW
    rw [wmr_c h h11, h, loN_c h h11 i l]
theorem mpV_c {S S' : St} (h : S' 24 = S 24) (h11 : S' 11 = S 11) (i : Nat) : mpV S' i = mpV S i := by
  unfold mpV mpoor nB
  rw [h11, tdN_c h, loN_c h h11]
def rkM (S : St) (l : Nat) : St := fun t i k => if t = 18 ∧ i = 0 ∧ k < l ∧ mact S k then mpV S k else S t i k
theorem rkM_0 (S : St) : rkM S 0 = S := by
  funext t i k
  unfold rkM
  rw [if_neg (by omega)]
theorem rkM_y {S : St} {l : Nat} {x : Int} (ha : mact S l) (hx : x = mpV S l) : up3 (rkM S l) 18 0 l x = rkM S (l + 1) := by
  subst hx
  funext t i k
  unfold up3 rkM
  by_cases h : t = 18 ∧ i = 0 ∧ k = l
  · obtain ⟨rfl, rfl, rfl⟩ := h
    rw [if_pos ⟨rfl, rfl, rfl⟩, if_pos ⟨rfl, rfl, by omega, ha⟩]
  · rw [if_neg h]
    by_cases h2 : t = 18 ∧ i = 0 ∧ k < l ∧ mact S k
    · rw [if_pos h2, if_pos ⟨h2.1, h2.2.1, by omega, h2.2.2.2⟩]
    · rw [if_neg h2, if_neg (fun q => h2 ⟨q.1, q.2.1, by omega, q.2.2.2⟩)]
theorem rkM_n {S : St} {l : Nat} (ha : ¬ mact S l) : rkM S l = rkM S (l + 1) := by
  funext t i k
  unfold rkM
  by_cases h2 : t = 18 ∧ i = 0 ∧ k < l ∧ mact S k
  · rw [if_pos h2, if_pos ⟨h2.1, h2.2.1, by omega, h2.2.2.2⟩]
  · rw [if_neg h2, if_neg (fun q => h2 ⟨q.1, q.2.1, by
      by_cases e : k = l
      · subst e; exact absurd q.2.2.2 ha
      · omega, q.2.2.2⟩)]
theorem mI_aw {S : St} (hI : mI S) (l : Nat) : mI (awM S l).1 := by
  have hk := awM_keep S l
  have e : ∀ t, t ≠ 20 → (awM S l).1 t = S t := hk
  unfold mI mN mR mO mB mP
  rw [e 11 (by omega), e 12 (by omega), e 13 (by omega), e 14 (by omega), e 15 (by omega), e 16 (by omega), e 17 (by omega), e 18 (by omega), e 25 (by omega), e 21 (by omega), e 22 (by omega), e 23 (by omega), e 24 (by omega), e 26 (by omega), e 27 (by omega), e 28 (by omega)]
  exact hI
theorem mI_rk {S : St} (hI : mI S) (l : Nat) : mI (rkM S l) := by
  refine ⟨hI.1, fun k hk => ?_, hI.2.2.1, hI.2.2.2.1, hI.2.2.2.2⟩
  have h := hI.2.1 k hk
  have e18 : 0 ≤ rkM S l 18 0 k ∧ rkM S l 18 0 k ≤ 1 := by
    show 0 ≤ (if 18 = 18 ∧ 0 = 0 ∧ k < l ∧ mact S k then mpV S k else S 18 0 k) ∧ (if 18 = 18 ∧ 0 = 0 ∧ k < l ∧ mact S k then mpV S k else S 18 0 k) ≤ 1
    split
    · unfold mpV
      split <;> omega
    · exact h.2.2.2.2.2.2.1
  exact ⟨h.1, h.2.1, h.2.2.1, h.2.2.2.1, h.2.2.2.2.1, h.2.2.2.2.2.1, e18, h.2.2.2.2.2.2.2⟩
theorem mI_11 {S : St} (hI : mI S) {k : Nat} {x : Int} (hk : k = 15 ∧ 0 ≤ x ∧ x ≤ 1000000 ∨ k = 16 ∨ k = 17) : mI (up3 S 11 0 k x) := by
  obtain ⟨⟨a1, a2, a3, a4, a5, a6⟩, b1, b2, b3, b4⟩ := hI
  rcases hk with ⟨rfl, hx⟩ | rfl | rfl
  · exact ⟨⟨a1, a2, a3, hx, a5, a6⟩, b1, b2, b3, b4⟩
  · exact ⟨⟨a1, a2, a3, a4, a5, a6⟩, b1, b2, b3, b4⟩
  · exact ⟨⟨a1, a2, a3, a4, a5, a6⟩, b1, b2, b3, b4⟩
def mlf3 (S : St) (i : Nat) : Int := S 11 0 16 - min (S 11 0 16) (S 12 0 i) - min (S 11 0 16 - min (S 11 0 16) (S 12 0 i)) (S 13 0 i)
def mpd3 (S : St) (i : Nat) : Int := min (mlf3 S i) (S 11 0 15)
def me0 (S : St) (i : Nat) : St × Int := (up3 S 11 0 15 (S 11 0 15 - mpd3 S i), mlf3 S i - mpd3 S i)
def me1 (S : St) (i : Nat) : St × Int := msh (me0 S i).1 (me0 S i).2 1
def me2 (S : St) (i : Nat) : St × Int := msh (me1 S i).1 (me1 S i).2 0
def me3 (S : St) (i : Nat) : St × Int := mas (me2 S i).1 (me2 S i).2
def me4 (S : St) (i : Nat) : St × Int := mgn (me3 S i).1 (me3 S i).2
theorem me0_ok {S : St} (hI : mI S) (hL : 0 ≤ S 11 0 16 ∧ S 11 0 16 ≤ 1000000) {i : Nat} (hi : i < 10) : mI (me0 S i).1 ∧ 0 ≤ (me0 S i).2 ∧ (me0 S i).2 ≤ 1000000 := by
  have h4 := hI.1.2.2.2.1
  have hm := hI.2.1 i hi
  have h1 : 0 ≤ mlf3 S i ∧ mlf3 S i ≤ 1000000 := by unfold mlf3; omega
  have h2 : 0 ≤ mpd3 S i ∧ mpd3 S i ≤ S 11 0 15 ∧ mpd3 S i ≤ mlf3 S i := by unfold mpd3; omega
  refine ⟨mI_11 hI (Or.inl ⟨rfl, by omega⟩), ?_⟩
  show 0 ≤ mlf3 S i - mpd3 S i ∧ mlf3 S i - mpd3 S i ≤ _
  omega
theorem me_ok {S : St} (hI : mI S) (hL : 0 ≤ S 11 0 16 ∧ S 11 0 16 ≤ 1000000) {i : Nat} (hi : i < 10) : (mI (me1 S i).1 ∧ 0 ≤ (me1 S i).2 ∧ (me1 S i).2 ≤ 1000000) ∧ (mI (me2 S i).1 ∧ 0 ≤ (me2 S i).2 ∧ (me2 S i).2 ≤ 1000000) ∧ (mI (me3 S i).1 ∧ 0 ≤ (me3 S i).2 ∧ (me3 S i).2 ≤ 1000000) ∧ mI (me4 S i).1 ∧ 0 ≤ (me4 S i).2 ∧ (me4 S i).2 ≤ 1000000 := by
  have h0 := me0_ok hI hL hi
  have h1 := mI_msh h0.1 (a := (me0 S i).2) (by omega) 1
  have h1' : mI (me1 S i).1 ∧ 0 ≤ (me1 S i).2 ∧ (me1 S i).2 ≤ 1000000 := ⟨h1.1, by unfold me1; omega⟩
  have h2 := mI_msh h1'.1 (a := (me1 S i).2) (by omega) 0
  have h2' : mI (me2 S i).1 ∧ 0 ≤ (me2 S i).2 ∧ (me2 S i).2 ≤ 1000000 := ⟨h2.1, by unfold me2; omega⟩
  have h3 := mI_mas h2'.1 (a := (me2 S i).2) (by omega)
  have h3' : mI (me3 S i).1 ∧ 0 ≤ (me3 S i).2 ∧ (me3 S i).2 ≤ 1000000 := ⟨h3.1, by unfold me3; omega⟩
  have h4 := mI_mgn h3'.1 (a := (me3 S i).2) (by omega)
  exact ⟨h1', h2', h3', h4.1, by unfold me4; omega⟩
def mcl1 (S : St) : St := up3 (rkM (awM S (nB S)).1 (nM S)) 11 0 16 (if (awM S (nB S)).2 < 0 then 0 else (awM S (nB S)).2)
def mcl2 (S : St) (i : Nat) : St := up3 (me4 (mcl1 S) i).1 11 0 17 ((me4 (mcl1 S) i).1 11 0 17 + (me4 (mcl1 S) i).2)
theorem emM_keep (S : St) (i : Nat) (x : Int) : (∀ t, t ≠ 12 → t ≠ 13 → t ≠ 15 → t ≠ 17 → t ≠ 21 → emM S i x t = S t) ∧ (∀ k, emM S i x 17 0 k = if k = i then x else S 17 0 k) ∧ (∀ k, emM S i x 12 0 k = if k = i then 0 else S 12 0 k) ∧ (∀ k, emM S i x 13 0 k = if k = i then 0 else S 13 0 k) ∧ (∀ k, emM S i x 15 0 k = if k = i then 0 else S 15 0 k) ∧ ∀ k, emM S i x 21 0 k = if k < nC S ∧ S 21 0 k = i then -1 else S 21 0 k := by
  refine ⟨fun t a b c d e => ?_, fun k => ?_, fun k => ?_, fun k => ?_, fun k => ?_, fun k => ?_⟩
  · funext u v
    simp [emM, owS, em0, up3, a, b, c, d, e]
  · simp [emM, owS, em0, up3]
  · simp [emM, owS, em0, up3]
  · simp [emM, owS, em0, up3]
  · simp [emM, owS, em0, up3]
  · simp [emM, owS, em0, up3]
theorem mO_em {S : St} (hO : mO S) (i : Nat) (x : Int) : mO (emM S i x) := fun k hk => by
  have h := hO k hk
  have e := emM_keep S i x
  rw [e.2.2.2.2.2 k, e.1 22 (by omega) (by omega) (by omega) (by omega) (by omega), e.1 23 (by omega) (by omega) (by omega) (by omega) (by omega)]
  refine ⟨?_, h.2⟩
  split
  · omega
  · exact h.1
def emN (S : St) : Nat → St
  | 0 => S
  | l + 1 => if S 17 0 l = 1 then emM (emN S l) l 3 else emN S l
theorem emN_succ (S : St) (l : Nat) : emN S (l + 1) = if S 17 0 l = 1 then emM (emN S l) l 3 else emN S l := rfl
theorem emN_keep {S : St} (hO : mO S) : ∀ l : Nat, (∀ t, t ≠ 12 → t ≠ 13 → t ≠ 15 → t ≠ 17 → t ≠ 21 → emN S l t = S t) ∧ (∀ k, l ≤ k → emN S l 17 0 k = S 17 0 k) ∧ mO (emN S l)
  | 0 => ⟨fun _ _ _ _ _ _ => rfl, fun _ _ => rfl, hO⟩
  | l + 1 => by
    have h := emN_keep hO l
    rw [emN_succ]
    split
    · have e := emM_keep (emN S l) l 3
      refine ⟨fun t a b c d f => ?_, fun k hk => ?_, mO_em h.2.2 _ _⟩
      · rw [e.1 t a b c d f, h.1 t a b c d f]
      · rw [e.2.1 k, if_neg (by omega), h.2.1 k (by omega)]
    · exact ⟨h.1, fun k hk => h.2.1 k (by omega), h.2.2⟩
def mclS (S : St) (i : Nat) : St := up3 (emN (emM (mcl2 S i) i 2) (nM S)) 11 0 18 (-1)
theorem mcl1_ok {S : St} (hI : mI S) : mI (mcl1 S) ∧ 0 ≤ mcl1 S 11 0 16 ∧ mcl1 S 11 0 16 ≤ 1000000 := by
  have hb := hI.1.2.2.2.2.2
  have hr := awM_rng hI.1.1 hI.2.2.2.1 (nB S) (by unfold nB; omega)
  have hbe : ((nB S : Nat) : Int) = S 11 0 19 := by unfold nB; omega
  refine ⟨mI_11 (mI_rk (mI_aw hI _) _) (Or.inr (Or.inl rfl)), ?_⟩
  have e : mcl1 S 11 0 16 = if (awM S (nB S)).2 < 0 then 0 else (awM S (nB S)).2 := by simp [mcl1, up3]
  rw [e]
  split <;> omega
section XMClose
variable {g : Gl} {S : St} {Ret : Option AV → St → Prop} {Thr : String → St → Prop}
theorem m_winnerV {lot : Nat} {v : Int} (hv : wmr S lot = v) (hl : lot < 120) (hm : 0 ≤ S 11 0 9 ∧ S 11 0 9 ≤ 10) (hB : mB S) (h : Ret (some (vI v)) S) : Cn g yX4_winner cX4_winner 5 (some .int) 0 0 0 [vR 11 0, vI (lot : Int)] S Ret Thr := by
  subst hv
  exact m_winner hl hm hB h
theorem m_close (hI : mI S) (hok : ∀ i : Nat, S 11 0 18 = i → i < 10 → Ret (some (vI (me4 (mcl1 (thr S 0)) i).2)) (mclS (thr S 0) i)) (h1 : S 11 0 18 = -1 → Ret (some (vI 0)) (thr S 1)) : Cn g yX4_close cX4_close 5 (some .int) 2 57 0 [vR 11 0] S Ret Thr := by
  refine enter (L := [some (vR 11 0), none, none, none, none]) (by decide +kernel) (Nat.le_of_ble_eq_true rfl) rfl (fun K MM => ?_)
  have M := MM.mk
  have hN := hI.1
  unfold mN at hN
  refine r_aload_n M dX4_close_0 rfl ?_
  refine r_iconst M dX4_close_1 ?_
  refine r_putI M dX4_close_2 pk_X4_65 (by decide) ?_
  refine r_aload_n M dX4_close_5 rfl ?_
  refine r_getV M dX4_close_6 fk_X4_46 (by decide) rfl (S 11 0 18) (by rfl) ?_
  refine r_iconst M dX4_close_9 ?_
  refine r_icmp_ne M dX4_close_10 (tgt := 19) rfl (by omega) (fun b10 => ?_) (fun b10 => ?_)
  rotate_left
  · refine r_aload_n M dX4_close_13 rfl ?_
    refine r_iconst M dX4_close_14 ?_
    refine r_callV1 MM dX4_close_15 ck_X4_76 vk_X4_fails ⟨by omega, by omega, by omega⟩ ⟨by decide, by decide, rfl⟩ (by decide) (Nat.le_of_ble_eq_true rfl) (m_fails ?_)
    refine r_iret MM dX4_close_18 ?_
    exact ret_S (h1 b10) (thr_thr S 0 1)
  refine r_iconst M dX4_close_19 ?_
  refine r_istore_1 M dX4_close_20 (by decide) rfl ?_
  refine r_iconst M dX4_close_21 ?_
  refine r_istore_2 M dX4_close_22 (by decide) rfl ?_
  have hI0 : mI (thr S 0) := mI_thr hI 0
  have e0 : up3 S 11 0 25 0 = thr S 0 := rfl
  rw [e0]
  have hfi : thr S 0 11 0 18 = ((S 11 0 18).toNat : Int) := by show S 11 0 18 = _; omega
  have hi9 : (S 11 0 18).toNat < 10 := by omega
  have hok2 := hok (S 11 0 18).toNat (by omega) hi9
  generalize (S 11 0 18).toNat = i at *
  clear hok h1 hI hN e0
  generalize thr S 0 = S at *
  have hm := hI0.1.1
  have hn := nM_le hm
  have hne := nM_eq hm
  have hN := hI0.1
  unfold mN at hN
  have hbe : ((nB S : Nat) : Int) = S 11 0 19 := by unfold nB; omega
  have hsr := awM_rng hm hI0.2.2.2.1 (nB S) (by omega)
  have h1ok := mcl1_ok hI0
  have hee := me_ok h1ok.1 h1ok.2 hi9
  have he0 := me0_ok h1ok.1 h1ok.2 hi9
  have hR1 := h1ok.1.2.1 i hi9
  have hC1 := h1ok.1.1.2.2.2.1
  have hL1 := h1ok.2
  have hfi1 : mcl1 S 11 0 18 = i := by
    show (awM S (nB S)).1 11 0 18 = _
    rw [awM_keep S (nB S) 11 (by omega)]
    exact hfi
  have hI2 : mI (mcl2 S i) := mI_11 hee.2.2.2.1 (Or.inr (Or.inr rfl))
  have hO5 : mO (emM (mcl2 S i) i 2) := mO_em hI2.2.2.1 i 2
  have hN2 := hI2.1
  unfold mN at hN2
  have e11a : ∀ k, k ≠ 15 → k ≠ 16 → k ≠ 17 → mcl2 S i 11 0 k = S 11 0 k := fun k h5 h6 h7 => by
    show (if 11 = 11 ∧ 0 = 0 ∧ k = 17 then _ else if 11 = 11 ∧ 0 = 0 ∧ k = 15 then _ else if 11 = 11 ∧ 0 = 0 ∧ k = 16 then _ else (awM S (nB S)).1 11 0 k) = _
    rw [if_neg (fun q => h7 q.2.2), if_neg (fun q => h5 q.2.2), if_neg (fun q => h6 q.2.2), awM_keep S (nB S) 11 (by omega)]
  have e18 := e11a 18 (by omega) (by omega) (by omega)
  have e9 := e11a 9 (by omega) (by omega) (by omega)
  -- from 205 on
  have hpd : ∀ v s1 c3 c4, v = mpd3 (mcl1 S) i → K 0 205 [some (vR 11 0), some (vI s1), some (vI (mlf3 (mcl1 S) i)), c3, c4] [vI v] (mcl1 S) := by
    intro v s1 c3 c4 hv
    subst hv
    refine r_istore_3 M dX4_close_205 (by decide) rfl ?_
    refine r_aload_n M dX4_close_206 rfl ?_
    refine r_dupR M dX4_close_207 ?_
    refine r_getI M dX4_close_208 fk_X4_99 (by decide) rfl ?_
    refine r_iload_n M dX4_close_211 rfl ?_
    refine r_isub M dX4_close_212 ?_
    refine r_putI M dX4_close_213 pk_X4_99 (by decide) ?_
    refine r_iload_n M dX4_close_216 rfl ?_
    refine r_iload_n M dX4_close_217 rfl ?_
    refine r_isub M dX4_close_218 ?_
    refine r_istore_2 M dX4_close_219 (by decide) rfl ?_
    refine r_aload_n M dX4_close_220 rfl ?_
    refine r_iload_n M dX4_close_221 rfl ?_
    refine r_iconst M dX4_close_222 ?_
    refine r_callV2 MM dX4_close_223 ck_X4_126 vk_X4_eatShares ⟨by omega, by omega, by omega⟩ ⟨by decide, by decide, rfl⟩ (by decide) (Nat.le_of_ble_eq_true rfl) (m_eatShares (a := (me0 (mcl1 S) i).2) (by omega) he0.1 (by omega) ?_)
    refine r_istore_2 M dX4_close_226 (by decide) rfl ?_
    refine r_aload_n M dX4_close_227 rfl ?_
    refine r_iload_n M dX4_close_228 rfl ?_
    refine r_iconst M dX4_close_229 ?_
    refine r_callV2 MM dX4_close_230 ck_X4_126 vk_X4_eatShares ⟨by omega, by omega, by omega⟩ ⟨by decide, by decide, rfl⟩ (by decide) (Nat.le_of_ble_eq_true rfl) (m_eatShares (a := (me1 (mcl1 S) i).2) (by omega) hee.1.1 (by omega) ?_)
    refine r_istore_2 M dX4_close_233 (by decide) rfl ?_
    refine r_aload_n M dX4_close_234 rfl ?_
    refine r_iload_n M dX4_close_235 rfl ?_
    refine r_callV1 MM dX4_close_236 ck_X4_130 vk_X4_assess ⟨by omega, by omega, by omega⟩ ⟨by decide, by decide, rfl⟩ (by decide) (Nat.le_of_ble_eq_true rfl) (m_assess (a := (me2 (mcl1 S) i).2) hee.2.1.1 (by omega) ?_)
    refine r_istore_2 M dX4_close_239 (by decide) rfl ?_
    refine r_aload_n M dX4_close_240 rfl ?_
    refine r_iload_n M dX4_close_241 rfl ?_
    refine r_callV1 MM dX4_close_242 ck_X4_133 vk_X4_cutGains ⟨by omega, by omega, by omega⟩ ⟨by decide, by decide, rfl⟩ (by decide) (Nat.le_of_ble_eq_true rfl) (m_cutGains (a := (me3 (mcl1 S) i).2) hee.2.2.1.1 (by omega) ?_)
    refine r_istore_2 M dX4_close_245 (by decide) rfl ?_
    refine r_aload_n M dX4_close_246 rfl ?_
    refine r_dupR M dX4_close_247 ?_
    refine r_getI M dX4_close_248 fk_X4_136 (by decide) rfl ?_
    refine r_iload_n M dX4_close_251 rfl ?_
    refine r_iadd M dX4_close_252 ?_
    refine r_putI M dX4_close_253 pk_X4_136 (by decide) ?_
    refine r_aload_n M dX4_close_256 rfl ?_
    refine r_aload_n M dX4_close_257 rfl ?_
    refine r_getV M dX4_close_258 fk_X4_46 (by decide) rfl ((i : Int)) (by exact e18.trans hfi) ?_
    refine r_iconst M dX4_close_261 ?_
    refine r_callV2 MM dX4_close_262 ck_X4_139 vk_X4_empty ⟨by omega, by omega, by omega⟩ ⟨by decide, by decide, rfl⟩ (by decide) (Nat.le_of_ble_eq_true rfl) (m_empty (i := i) rfl hi9 (S := mcl2 S i) (by omega) hI2.2.2.1 ?_)
    refine r_iconst M dX4_close_265 ?_
    refine r_istore_4 M dX4_close_266 (by decide) rfl ?_
    refine fz (P := fun l => K 0 268 [some (vR 11 0), some (vI s1), some (vI (me4 (mcl1 S) i).2), some (vI (mpd3 (mcl1 S) i)), some (vI (l : Int))] [] (emN (emM (mcl2 S i) i 2) l)) (m := nM S) ?_ ?_
    · have hk := emN_keep hO5 (nM S)
      have hke := emM_keep (mcl2 S i) i 2
      refine r_iload M dX4_close_268 rfl ?_
      refine r_aload_n M dX4_close_270 rfl ?_
      refine r_getV M dX4_close_271 fk_X4_68 (by decide) rfl (S 11 0 9) (by rw [hk.1 11 (by omega) (by omega) (by omega) (by omega) (by omega), hke.1 11 (by omega) (by omega) (by omega) (by omega) (by omega)]; exact e9) ?_
      refine r_icmp_ge M dX4_close_274 (tgt := 301) rfl (by omega) (fun b274 => ?_) (fun b274 => by omega)
      refine r_aload_n M dX4_close_301 rfl ?_
      refine r_iconst M dX4_close_302 ?_
      refine r_putI M dX4_close_303 pk_X4_46 (by decide) ?_
      refine r_iload_n M dX4_close_306 rfl ?_
      refine r_iret MM dX4_close_307 ?_
      exact hok2
    · intro l hl hP
      have hk := emN_keep hO5 l
      have hke := emM_keep (mcl2 S i) i 2
      have hst := (hI2.2.1 l (by omega)).2.2.2.2.2.1
      have h17 : 0 ≤ emM (mcl2 S i) i 2 17 0 l ∧ emM (mcl2 S i) i 2 17 0 l ≤ 3 := by
        rw [hke.2.1 l]
        split <;> omega
      have h14 : emN (emM (mcl2 S i) i 2) l 11 0 14 = mcl2 S i 11 0 14 := by rw [hk.1 11 (by omega) (by omega) (by omega) (by omega) (by omega), hke.1 11 (by omega) (by omega) (by omega) (by omega) (by omega)]
      rw [emN_succ] at hP
      refine r_iload M dX4_close_268 rfl ?_
      refine r_aload_n M dX4_close_270 rfl ?_
      refine r_getV M dX4_close_271 fk_X4_68 (by decide) rfl (S 11 0 9) (by rw [hk.1 11 (by omega) (by omega) (by omega) (by omega) (by omega), hke.1 11 (by omega) (by omega) (by omega) (by omega) (by omega)]; exact e9) ?_
      refine r_icmp_ge M dX4_close_274 (tgt := 301) rfl (by omega) (fun b274 => by omega) (fun b274 => ?_)
      refine r_aload_n M dX4_close_277 rfl ?_
      refine r_getR M dX4_close_278 fk_X4_25 (by decide) rfl ?_
      refine r_iload M dX4_close_281 rfl ?_
      refine r_ialdV M (_) dX4_close_283 ⟨rfl, by decide⟩ (by decide) rfl (show (_ : Nat) < 10 by omega) (Nat.le_of_ble_eq_true rfl) (emM (mcl2 S i) i 2 17 0 l) (by exact hk.2.1 l (Nat.le_refl _)) ?_
      refine r_iconst M dX4_close_284 ?_
      refine r_icmp_ne M dX4_close_285 (tgt := 295) rfl (by omega) (fun b285 => ?_) (fun b285 => ?_)
      · refine r_iinc_4 M (_) dX4_close_295 rfl (by decide) rfl ?_
        refine r_goto M dX4_close_298 (tgt := 268) rfl ?_
        first | (rw [if_pos b285] at hP; exact hP) | (rw [if_neg b285] at hP; exact hP)
      refine r_aload_n M dX4_close_288 rfl ?_
      refine r_iload M dX4_close_289 rfl ?_
      refine r_iconst M dX4_close_291 ?_
      refine r_callV2 MM dX4_close_292 ck_X4_139 vk_X4_empty ⟨by omega, by omega, by omega⟩ ⟨by decide, by decide, rfl⟩ (by decide) (Nat.le_of_ble_eq_true rfl) (m_empty (i := l) rfl (by omega) (by rw [h14]; omega) hk.2.2 ?_)
      refine r_iinc_4 M (_) dX4_close_295 rfl (by decide) rfl ?_
      refine r_goto M dX4_close_298 (tgt := 268) rfl ?_
      first | (rw [if_pos b285] at hP; exact hP) | (rw [if_neg b285] at hP; exact hP)
  have h187 : ∀ v s1 c3 c4, v = min (mcl1 S 11 0 16 - min (mcl1 S 11 0 16) (mcl1 S 12 0 i)) (mcl1 S 13 0 i) → K 0 187 [some (vR 11 0), some (vI s1), some (vI (mcl1 S 11 0 16 - min (mcl1 S 11 0 16) (mcl1 S 12 0 i))), c3, c4] [vI v, vI (mcl1 S 11 0 16 - min (mcl1 S 11 0 16) (mcl1 S 12 0 i))] (mcl1 S) := by
    intro v s1 c3 c4 hv
    subst hv
    have hl3 : mlf3 (mcl1 S) i = mcl1 S 11 0 16 - min (mcl1 S 11 0 16) (mcl1 S 12 0 i) - min (mcl1 S 11 0 16 - min (mcl1 S 11 0 16) (mcl1 S 12 0 i)) (mcl1 S 13 0 i) := rfl
    rw [hl3] at hpd
    refine r_isub M dX4_close_187 ?_
    refine r_istore_2 M dX4_close_188 (by decide) rfl ?_
    refine r_iload_n M dX4_close_189 rfl ?_
    refine r_aload_n M dX4_close_190 rfl ?_
    refine r_getI M dX4_close_191 fk_X4_99 (by decide) rfl ?_
    refine r_icmp_ge M dX4_close_194 (tgt := 201) rfl (by omega) (fun b194 => ?_) (fun b194 => ?_)
    · refine r_aload_n M dX4_close_201 rfl ?_
      refine r_getI M dX4_close_202 fk_X4_99 (by decide) rfl ?_
      exact hpd _ _ _ _ (by unfold mpd3; rw [hl3]; omega)
    refine r_iload_n M dX4_close_197 rfl ?_
    refine r_goto M dX4_close_198 (tgt := 205) rfl ?_
    exact hpd _ _ _ _ (by unfold mpd3; rw [hl3]; omega)
  have h158 : ∀ v s1 c3 c4, v = min (mcl1 S 11 0 16) (mcl1 S 12 0 i) → K 0 158 [some (vR 11 0), some (vI s1), some (vI (mcl1 S 11 0 16)), c3, c4] [vI v, vI (mcl1 S 11 0 16)] (mcl1 S) := by
    intro v s1 c3 c4 hv
    subst hv
    refine r_isub M dX4_close_158 ?_
    refine r_istore_2 M dX4_close_159 (by decide) rfl ?_
    refine r_iload_n M dX4_close_160 rfl ?_
    refine r_iload_n M dX4_close_161 rfl ?_
    refine r_aload_n M dX4_close_162 rfl ?_
    refine r_getR M dX4_close_163 fk_X4_13 (by decide) rfl ?_
    refine r_aload_n M dX4_close_166 rfl ?_
    refine r_getV M dX4_close_167 fk_X4_46 (by decide) rfl ((i : Int)) (by exact hfi1) ?_
    refine r_iald M (i) dX4_close_170 ⟨rfl, by decide⟩ (by decide) rfl (show (_ : Nat) < 10 by omega) (Nat.le_of_ble_eq_true rfl) ?_
    refine r_icmp_ge M dX4_close_171 (tgt := 178) rfl (by omega) (fun b171 => ?_) (fun b171 => ?_)
    · refine r_aload_n M dX4_close_178 rfl ?_
      refine r_getR M dX4_close_179 fk_X4_13 (by decide) rfl ?_
      refine r_aload_n M dX4_close_182 rfl ?_
      refine r_getV M dX4_close_183 fk_X4_46 (by decide) rfl ((i : Int)) (by exact hfi1) ?_
      refine r_iald M (i) dX4_close_186 ⟨rfl, by decide⟩ (by decide) rfl (show (_ : Nat) < 10 by omega) (Nat.le_of_ble_eq_true rfl) ?_
      exact h187 _ _ _ _ (by omega)
    refine r_iload_n M dX4_close_174 rfl ?_
    refine r_goto M dX4_close_175 (tgt := 187) rfl ?_
    exact h187 _ _ _ _ (by omega)
  have h123 : ∀ v s1 s2 c3 c4, v = (if (awM S (nB S)).2 < 0 then 0 else (awM S (nB S)).2) → K 0 123 [some (vR 11 0), some (vI s1), some (vI s2), c3, c4] [vI v, vR 11 0] (rkM (awM S (nB S)).1 (nM S)) := by
    intro v s1 s2 c3 c4 hv
    subst hv
    refine r_putI M dX4_close_123 pk_X4_123 (by decide) ?_
    refine r_aload_n M dX4_close_126 rfl ?_
    refine r_getV M dX4_close_127 fk_X4_123 (by decide) rfl (mcl1 S 11 0 16) (by rfl) ?_
    refine r_istore_2 M dX4_close_130 (by decide) rfl ?_
    refine r_iload_n M dX4_close_131 rfl ?_
    refine r_iload_n M dX4_close_132 rfl ?_
    refine r_aload_n M dX4_close_133 rfl ?_
    refine r_getR M dX4_close_134 fk_X4_7 (by decide) rfl ?_
    refine r_aload_n M dX4_close_137 rfl ?_
    refine r_getV M dX4_close_138 fk_X4_46 (by decide) rfl ((i : Int)) (by exact hfi1) ?_
    refine r_ialdV M (i) dX4_close_141 ⟨rfl, by decide⟩ (by decide) rfl (show (_ : Nat) < 10 by omega) (Nat.le_of_ble_eq_true rfl) (mcl1 S 12 0 i) (by rfl) ?_
    refine r_icmp_ge M dX4_close_142 (tgt := 149) rfl (by omega) (fun b142 => ?_) (fun b142 => ?_)
    · refine r_aload_n M dX4_close_149 rfl ?_
      refine r_getR M dX4_close_150 fk_X4_7 (by decide) rfl ?_
      refine r_aload_n M dX4_close_153 rfl ?_
      refine r_getV M dX4_close_154 fk_X4_46 (by decide) rfl ((i : Int)) (by exact hfi1) ?_
      refine r_ialdV M (i) dX4_close_157 ⟨rfl, by decide⟩ (by decide) rfl (show (_ : Nat) < 10 by omega) (Nat.le_of_ble_eq_true rfl) (mcl1 S 12 0 i) (by rfl) ?_
      exact h158 _ _ _ _ (by omega)
    refine r_iload_n M dX4_close_145 rfl ?_
    refine r_goto M dX4_close_146 (tgt := 158) rfl ?_
    exact h158 _ _ _ _ (by omega)
  refine fz (P := fun l => ∀ c3, K 0 23 [some (vR 11 0), some (vI (awM S l).2), some (vI (l : Int)), c3, none] [] (awM S l).1) (m := nB S) ?_ ?_ _
  · intro c3
    have hk := awM_keep S (nB S)
    refine r_iload_n M dX4_close_23 rfl ?_
    refine r_aload_n M dX4_close_24 rfl ?_
    refine r_getV M dX4_close_25 fk_X4_107 (by decide) rfl (S 11 0 19) (by rw [hk 11 (by omega)]) ?_
    refine r_icmp_ge M dX4_close_28 (tgt := 84) rfl (by omega) (fun b28 => ?_) (fun b28 => by omega)
    refine r_iconst M dX4_close_84 ?_
    refine r_istore_2 M dX4_close_85 (by decide) rfl ?_
    refine k_S (S1 := rkM (awM S (nB S)).1 0) ?_ (rkM_0 _).symm
    refine fz (P := fun l => K 0 86 [some (vR 11 0), some (vI (awM S (nB S)).2), some (vI (l : Int)), c3, none] [] (rkM (awM S (nB S)).1 l)) (m := nM S) ?_ ?_
    · refine r_iload_n M dX4_close_86 rfl ?_
      refine r_aload_n M dX4_close_87 rfl ?_
      refine r_getV M dX4_close_88 fk_X4_68 (by decide) rfl (S 11 0 9) (by show (awM S (nB S)).1 11 0 9 = _; rw [hk 11 (by omega)]) ?_
      refine r_icmp_ge M dX4_close_91 (tgt := 113) rfl (by omega) (fun b91 => ?_) (fun b91 => by omega)
      refine r_aload_n M dX4_close_113 rfl ?_
      refine r_iload_n M dX4_close_114 rfl ?_
      refine r_if_ge M dX4_close_115 (tgt := 122) rfl (by omega) (fun b115 => ?_) (fun b115 => ?_)
      · refine r_iload_n M dX4_close_122 rfl ?_
        first | exact h123 _ _ _ _ _ (by omega) | exact h123 _ _ _ _ _ (by rw [if_neg (by omega)]) | exact h123 _ _ _ _ _ (by rw [if_pos (by omega)])
      refine r_iconst M dX4_close_118 ?_
      refine r_goto M dX4_close_119 (tgt := 123) rfl ?_
      first | exact h123 _ _ _ _ _ (by omega) | exact h123 _ _ _ _ _ (by rw [if_neg (by omega)]) | exact h123 _ _ _ _ _ (by rw [if_pos (by omega)])
    · intro l hl hP
      have hr := (hI0.2.1 l (by omega)).2.2.2.2.2.1
      have e17 : rkM (awM S (nB S)).1 l 17 0 l = S 17 0 l := by
        show (awM S (nB S)).1 17 0 l = _
        rw [hk 17 (by omega)]
      have e119 : rkM (awM S (nB S)).1 l 11 = S 11 := by
        show (awM S (nB S)).1 11 = _
        exact hk 11 (by omega)
      have hma : mact (awM S (nB S)).1 l ↔ (S 17 0 l = 0 ∨ S 17 0 l = 1) := by
        unfold mact
        rw [hk 17 (by omega)]
      refine r_iload_n M dX4_close_86 rfl ?_
      refine r_aload_n M dX4_close_87 rfl ?_
      refine r_getV M dX4_close_88 fk_X4_68 (by decide) rfl (S 11 0 9) (by rw [e119]) ?_
      refine r_icmp_ge M dX4_close_91 (tgt := 113) rfl (by omega) (fun b91 => by omega) (fun b91 => ?_)
      refine r_aload_n M dX4_close_94 rfl ?_
      refine r_iload_n M dX4_close_95 rfl ?_
      refine r_callV1 MM dX4_close_96 ck_X4_90 vk_X4_isActive ⟨by omega, by omega, by omega⟩ ⟨by decide, by decide, rfl⟩ (by decide) (Nat.le_of_ble_eq_true rfl) (m_isActive rfl (by omega) (v := S 17 0 l) e17 (by omega) (fun hq => ?_) (fun hq => ?_))
      · refine r_if_eq M dX4_close_99 (tgt := 107) rfl (by omega) (fun b99 => by omega) (fun b99 => ?_)
        refine r_aload_n M dX4_close_102 rfl ?_
        refine r_iload_n M dX4_close_103 rfl ?_
        refine r_callV1 MM dX4_close_104 ck_X4_119 vk_X4_rank ⟨by omega, by omega, by omega⟩ ⟨by decide, by decide, rfl⟩ (by decide) (Nat.le_of_ble_eq_true rfl) (m_rank (by unfold nM; rw [e119]; exact hl) (by rw [e119]; exact hm) (by rw [e119]; omega) (by show mB (awM S (nB S)).1; unfold mB; rw [hk 24 (by omega)]; exact hI0.2.2.2.1) ?_)
        refine r_iinc_2 M (_) dX4_close_107 rfl (by decide) rfl ?_
        refine r_goto M dX4_close_110 (tgt := 86) rfl ?_
        first | exact k_S hP (rkM_n (fun w => hq (hma.mp w))) | exact k_S hP (rkM_y (hma.mpr hq) (mpV_c (S := (awM S (nB S)).1) (S' := rkM (awM S (nB S)).1 l) rfl rfl l))
      refine r_if_eq M dX4_close_99 (tgt := 107) rfl (by omega) (fun b99 => ?_) (fun b99 => by omega)
      refine r_iinc_2 M (_) dX4_close_107 rfl (by decide) rfl ?_
      refine r_goto M dX4_close_110 (tgt := 86) rfl ?_
      first | exact k_S hP (rkM_n (fun w => hq (hma.mp w))) | exact k_S hP (rkM_y (hma.mpr hq) (mpV_c (S := (awM S (nB S)).1) (S' := rkM (awM S (nB S)).1 l) rfl rfl l))
  · intro l hl hP c3
    have hk := awM_keep S l
    have hw := wmr_rng hm l
    have e11 : (awM S l).1 11 = S 11 := hk 11 (by omega)
    have e24 : (awM S l).1 24 = S 24 := hk 24 (by omega)
    have hB9 : mB (awM S l).1 := by unfold mB; rw [e24]; exact hI0.2.2.2.1
    rw [awM_succ] at hP
    refine r_iload_n M dX4_close_23 rfl ?_
    refine r_aload_n M dX4_close_24 rfl ?_
    refine r_getV M dX4_close_25 fk_X4_107 (by decide) rfl (S 11 0 19) (by rw [e11]) ?_
    refine r_icmp_ge M dX4_close_28 (tgt := 84) rfl (by omega) (fun b28 => by omega) (fun b28 => ?_)
    refine r_aload_n M dX4_close_31 rfl ?_
    refine r_iload_n M dX4_close_32 rfl ?_
    refine r_callV1 MM dX4_close_33 ck_X4_116 vk_X4_winner ⟨by omega, by omega, by omega⟩ ⟨by decide, by decide, rfl⟩ (by decide) (Nat.le_of_ble_eq_true rfl) (m_winnerV (wmr_c e24 e11 l) (by omega) (by rw [e11]; exact hm) hB9 ?_)
    refine r_istore_3 M dX4_close_36 (by decide) rfl ?_
    refine r_iload_n M dX4_close_37 rfl ?_
    refine r_iload_n M dX4_close_38 rfl ?_
    refine r_iconst M dX4_close_39 ?_
    refine r_icmp_ne M dX4_close_40 (tgt := 49) rfl (by omega) (fun b40 => ?_) (fun b40 => ?_)
    · refine r_aload_n M dX4_close_49 rfl ?_
      refine r_getR M dX4_close_50 fk_X4_50 (by decide) rfl ?_
      refine r_bipush M dX4_close_53 rfl ?_
      refine r_iload_n M dX4_close_55 rfl ?_
      refine r_imul M dX4_close_56 ?_
      refine r_iload_n M dX4_close_57 rfl ?_
      refine r_iadd M dX4_close_58 ?_
      refine r_ialdV M ((10 * l + (wmr S l).toNat)) dX4_close_59 ⟨rfl, by decide⟩ (by decide) (by omega) (show (_ : Nat) < 1200 by omega) (Nat.le_of_ble_eq_true rfl) (S 24 0 (10 * l + (wmr S l).toNat)) (by rw [e24]) ?_
      refine r_ineg M dX4_close_60 ?_
      refine r_iadd M dX4_close_61 ?_
      refine r_istore_1 M dX4_close_62 (by decide) rfl ?_
      refine r_iload_n M dX4_close_63 rfl ?_
      refine r_iconst M dX4_close_64 ?_
      refine r_icmp_eq M dX4_close_65 (tgt := 78) rfl (by omega) (fun b65 => ?_) (fun b65 => ?_)
      · refine r_iinc_2 M (_) dX4_close_78 rfl (by decide) rfl ?_
        refine r_goto M dX4_close_81 (tgt := 23) rfl ?_
        first | (exfalso; omega) | (rw [if_pos b40] at hP; exact hP _) | (rw [if_neg b40] at hP; exact hP _)
      refine r_aload_n M dX4_close_68 rfl ?_
      refine r_getR M dX4_close_69 fk_X4_34 (by decide) rfl ?_
      refine r_iload_n M dX4_close_72 rfl ?_
      refine r_dup2 M dX4_close_73 ?_
      refine r_iald M ((wmr S l).toNat) dX4_close_74 ⟨rfl, by decide⟩ (by decide) (by omega) (show (_ : Nat) < 10 by omega) (Nat.le_of_ble_eq_true rfl) ?_
      refine r_iconst M dX4_close_75 ?_
      refine r_iadd M dX4_close_76 ?_
      refine r_iast M ((wmr S l).toNat) dX4_close_77 ⟨rfl, by decide⟩ (by decide) (by omega) (show (_ : Nat) < 10 by omega) (Nat.le_of_ble_eq_true rfl) ?_
      refine r_iinc_2 M (_) dX4_close_78 rfl (by decide) rfl ?_
      refine r_goto M dX4_close_81 (tgt := 23) rfl ?_
      first | (exfalso; omega) | (rw [if_pos b40] at hP; exact hP _) | (rw [if_neg b40] at hP; exact hP _)
    refine r_sipush M dX4_close_43 rfl ?_
    refine r_goto M dX4_close_46 (tgt := 61) rfl ?_
    refine r_iadd M dX4_close_61 ?_
    refine r_istore_1 M dX4_close_62 (by decide) rfl ?_
    refine r_iload_n M dX4_close_63 rfl ?_
    refine r_iconst M dX4_close_64 ?_
    refine r_icmp_eq M dX4_close_65 (tgt := 78) rfl (by omega) (fun b65 => ?_) (fun b65 => ?_)
    · refine r_iinc_2 M (_) dX4_close_78 rfl (by decide) rfl ?_
      refine r_goto M dX4_close_81 (tgt := 23) rfl ?_
      first | (exfalso; omega) | (rw [if_pos b40] at hP; exact hP _) | (rw [if_neg b40] at hP; exact hP _)
    refine r_aload_n M dX4_close_68 rfl ?_
    refine r_getR M dX4_close_69 fk_X4_34 (by decide) rfl ?_
    refine r_iload_n M dX4_close_72 rfl ?_
    refine r_dup2 M dX4_close_73 ?_
    refine r_iald M ((wmr S l).toNat) dX4_close_74 ⟨rfl, by decide⟩ (by decide) (by omega) (show (_ : Nat) < 10 by omega) (Nat.le_of_ble_eq_true rfl) ?_
    refine r_iconst M dX4_close_75 ?_
    refine r_iadd M dX4_close_76 ?_
    refine r_iast M ((wmr S l).toNat) dX4_close_77 ⟨rfl, by decide⟩ (by decide) (by omega) (show (_ : Nat) < 10 by omega) (Nat.le_of_ble_eq_true rfl) ?_
    refine r_iinc_2 M (_) dX4_close_78 rfl (by decide) rfl ?_
    refine r_goto M dX4_close_81 (tgt := 23) rfl ?_
    first | (exfalso; omega) | (rw [if_pos b40] at hP; exact hP _) | (rw [if_neg b40] at hP; exact hP _)
end XMClose
