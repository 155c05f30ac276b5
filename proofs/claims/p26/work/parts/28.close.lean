/-! ===== DefaultFund: fail and close ===== -/
theorem r_iincW_1 {g : Gl} {own : String} {cc : ByteArray} {nL fr lo N : Nat} {K : KT} {n pc : Nat} {st : List AV} {S : St} (M : Mk g own cc nL fr lo N K) {a0 : Option AV} {T : List (Option AV)} {x z : Int} (y : Int) (d : decode cc pc = .ok (.iinc 1 z, 6)) (hy : x + z = y) (hj : 1 < nL) (hs : stOK (a0 :: some (vI x) :: T) 1 = true) (kk : K n (pc + 6) (a0 :: some (vI y) :: T) st S) : K n pc (a0 :: some (vI x) :: T) st S :=
  M.go (fun p e R s m args below meth c A c0 s0 Q C H locs ls hW hS hL hn k => by
    obtain ⟨q, hq⟩ := List.getElem?_of_mem (lvl_mem.mpr ⟨_, rfl, rfl⟩ : (1, cv g (vI x)) ∈ lvl g (a0 :: some (vI x) :: T))
    exact lv_iincW (v := Int32.ofInt y) C.1 C.2.1 d hL.lv hq (by rw [← hy, Int32.ofInt_add]) hj rfl (fun ls' h => k ls' (lvs.of1 (v := vI y) hs h))) kk
theorem mvN_rng {S : St} {i : Nat} (hi : i < 10) (hm : ∀ i, i < 10 → MI S i) : ∀ k, k ≤ 100 → 0 ≤ (mvN S i k).2 ∧ (mvN S i k).2 ≤ 20 * k
  | 0, _ => by show (0 : Int) ≤ 0 ∧ (0 : Int) ≤ 20 * 0; omega
  | k + 1, hk => by
    have h := mvN_rng hi hm k (by omega)
    have h2 := (hm i hi).2.2.2.2.2.2.2.2.2.2 k (by omega)
    show 0 ≤ (mvN S i k).2 + (mv1 (mvN S i k).1 (S 5 i k)).2 ∧ (mvN S i k).2 + (mv1 (mvN S i k).1 (S 5 i k)).2 ≤ _
    have h3 : 0 ≤ (mv1 (mvN S i k).1 (S 5 i k)).2 ∧ (mv1 (mvN S i k).1 (S 5 i k)).2 ≤ 20 := by
      unfold mv1
      split
      · show (0 : Int) ≤ 0 ∧ (0 : Int) ≤ 20; omega
      · exact h2
    omega
def flS (S : St) (j : Nat) : St := up3 (up3 (fS S 12 (fun i => S 4 i 5) (cN S)) 0 0 7 j) 4 j 3 2
def bookN (S : St) (j : Nat) (lots : Int) : Int := lots + (movS (flS S j) j).2
def failS (S : St) (j : Nat) (lots : Int) : St := opS (movS (flS S j) j).1 (min (bookN S j lots) 120).toNat 10 0
theorem flS_MI {S : St} (hI : CI S) (j : Nat) : ∀ i, i < 10 → MI (flS S j) i := fun i hi => by
  have h := hI.mem hi
  have e : ∀ k, flS S j 4 i k = if i = j ∧ k = 3 then 2 else if k = 12 ∧ i < cN S then S 4 i 5 else S 4 i k := fun k => by
    simp [flS, up3, fS]
  have e5 : ∀ k, flS S j 5 i k = S 5 i k := fun k => rfl
  unfold MI at h ⊢
  simp only [e, e5, show ((1 : Nat) = 3) = False by decide, show ((2 : Nat) = 3) = False by decide, show ((4 : Nat) = 3) = False by decide, show ((5 : Nat) = 3) = False by decide, show ((6 : Nat) = 3) = False by decide, show ((7 : Nat) = 3) = False by decide, show ((8 : Nat) = 3) = False by decide, show ((9 : Nat) = 3) = False by decide, show ((12 : Nat) = 3) = False by decide, show ((1 : Nat) = 12) = False by decide, show ((2 : Nat) = 12) = False by decide, show ((3 : Nat) = 12) = False by decide, show ((4 : Nat) = 12) = False by decide, show ((5 : Nat) = 12) = False by decide, show ((6 : Nat) = 12) = False by decide, show ((7 : Nat) = 12) = False by decide, show ((8 : Nat) = 12) = False by decide, show ((9 : Nat) = 12) = False by decide, and_false, false_and, if_false, and_true, true_and]
  refine ⟨h.1, h.2.1, ?_, h.2.2.2.1, h.2.2.2.2.1, h.2.2.2.2.2.1, h.2.2.2.2.2.2.1, h.2.2.2.2.2.2.2.1, h.2.2.2.2.2.2.2.2.1, ?_, h.2.2.2.2.2.2.2.2.2.2⟩
  · split
    · omega
    · exact h.2.2.1
  · split
    · exact h.2.2.2.2.1
    · exact h.2.2.2.2.2.2.2.2.2.1
/-- lots are awarded -/
def awN (S : St) : Nat → St × Int
  | 0 => (S, 0)
  | l + 1 => if winr S l = -1 then ((awN S l).1, (awN S l).2 + 1000) else (up3 (awN S l).1 4 (winr S l).toNat 11 ((awN S l).1 4 (winr S l).toNat 11 + 1), (awN S l).2 - S 7 (winr S l).toNat l)
theorem awN_succ (S : St) (l : Nat) : awN S (l + 1) = if winr S l = -1 then ((awN S l).1, (awN S l).2 + 1000) else (up3 (awN S l).1 4 (winr S l).toNat 11 ((awN S l).1 4 (winr S l).toNat 11 + 1), (awN S l).2 - S 7 (winr S l).toNat l) := rfl
theorem awN_keep (S : St) : ∀ l, (∀ t, t ≠ 4 → (awN S l).1 t = S t) ∧ ∀ i k, k ≠ 11 → (awN S l).1 4 i k = S 4 i k
  | 0 => ⟨fun _ _ => rfl, fun _ _ _ => rfl⟩
  | l + 1 => by
    have h := awN_keep S l
    rw [awN_succ]
    split
    · exact h
    · refine ⟨fun t ht => ?_, fun i k hk => ?_⟩
      · rw [← h.1 t ht]
        funext a b
        simp [up3, ht]
      · rw [← h.2 i k hk]
        simp [up3, hk]
theorem winr_c {S S' : St} (h : S' 7 = S 7) (l : Nat) : winr S' l = winr S l := by
  unfold winr
  rw [h]
theorem smA_c {S S' : St} (h2 : S' 2 = S 2) (h7 : S' 7 = S 7) (h : smA S) : smA S' := by
  unfold smA
  rw [h2, h7]
  exact h
theorem winr_rng {S : St} (hA : smA S) {l : Nat} (hl : l < 120) : winr S l = -1 ∨ 0 ≤ winr S l ∧ winr S l < 10 := (wnN_rng (fun i => S 7 i l) (fun k hk => hA.2 k hk l hl) 10 (by omega)).2
theorem awN_rng {S : St} (hA : smA S) : ∀ l : Nat, l ≤ 120 → -(1001 * (l : Int)) ≤ (awN S l).2 ∧ (awN S l).2 ≤ 1001 * l
  | 0, _ => by show -(1001 * (0 : Int)) ≤ 0 ∧ (0 : Int) ≤ 1001 * 0; omega
  | l + 1, hl => by
    have h := awN_rng hA l (by omega)
    rw [awN_succ]
    split
    · show _ ≤ (awN S l).2 + 1000 ∧ (awN S l).2 + 1000 ≤ _
      omega
    · have hw := winr_rng hA (show l < 120 by omega)
      have hb := hA.2 (winr S l).toNat (by omega) l (by omega)
      show _ ≤ (awN S l).2 - S 7 (winr S l).toNat l ∧ (awN S l).2 - S 7 (winr S l).toNat l ≤ _
      omega
theorem mdN_c {S S' : St} (h7 : S' 7 = S 7) (m : Nat) : ∀ l, mdN S' m l = mdN S m l
  | 0 => rfl
  | l + 1 => by
    unfold mdN
    rw [h7, mdN_c h7 m l]
theorem lwN_c {S S' : St} (h7 : S' 7 = S 7) (m : Nat) : ∀ l, lwN S' m l = lwN S m l
  | 0 => rfl
  | l + 1 => by
    unfold lwN isLw
    rw [winr_c h7, h7, lwN_c h7 m l]
theorem poor_c {S S' : St} (h2 : S' 2 = S 2) (h7 : S' 7 = S 7) (m : Nat) : poor S' m ↔ poor S m := by
  unfold poor
  rw [h2, mdN_c h7, lwN_c h7]
def rkV (S : St) (i : Nat) : Int := if poor S i then 1 else 0
def rkS (S : St) (l : Nat) : St := fun t i k => if t = 4 ∧ k = 9 ∧ i < l ∧ actv S i then rkV S i else S t i k
theorem rkS_0 (S : St) : rkS S 0 = S := by
  funext t i k
  unfold rkS
  rw [if_neg (by omega)]
theorem rkS_y {S : St} {l : Nat} {x : Int} (ha : actv S l) (hx : x = rkV S l) : up3 (rkS S l) 4 l 9 x = rkS S (l + 1) := by
  subst hx
  funext t i k
  unfold up3 rkS
  by_cases h : t = 4 ∧ i = l ∧ k = 9
  · obtain ⟨rfl, rfl, rfl⟩ := h
    rw [if_pos ⟨rfl, rfl, rfl⟩, if_pos ⟨rfl, rfl, by omega, ha⟩]
  · rw [if_neg h]
    by_cases h2 : t = 4 ∧ k = 9 ∧ i < l ∧ actv S i
    · rw [if_pos h2, if_pos ⟨h2.1, h2.2.1, by omega, h2.2.2.2⟩]
    · rw [if_neg h2, if_neg (fun q => h2 ⟨q.1, q.2.1, by omega, q.2.2.2⟩)]
theorem rkS_n {S : St} {l : Nat} (ha : ¬ actv S l) : rkS S l = rkS S (l + 1) := by
  funext t i k
  unfold rkS
  by_cases h2 : t = 4 ∧ k = 9 ∧ i < l ∧ actv S i
  · rw [if_pos h2, if_pos ⟨h2.1, h2.2.1, by omega, h2.2.2.2⟩]
  · rw [if_neg h2, if_neg (fun q => h2 ⟨q.1, q.2.1, by
      by_cases e : i = l
      · subst e; exact absurd q.2.2.2 ha
      · omega, q.2.2.2⟩)]
theorem CI_rk {S : St} (hI : CI S) (l : Nat) : CI (rkS S l) := by
  refine CI_set hI rfl rfl rfl hI.2.2.2.2.2.1 (fun i hi => ?_)
  have h := hI.mem hi
  have e : ∀ k, rkS S l 4 i k = if k = 9 ∧ i < l ∧ actv S i then rkV S i else S 4 i k := fun k => by simp [rkS]
  have e5 : ∀ k, rkS S l 5 i k = S 5 i k := fun k => rfl
  unfold MI at h ⊢
  simp only [e, e5, show ((1 : Nat) = 9) = False by decide, show ((2 : Nat) = 9) = False by decide, show ((3 : Nat) = 9) = False by decide, show ((4 : Nat) = 9) = False by decide, show ((5 : Nat) = 9) = False by decide, show ((6 : Nat) = 9) = False by decide, show ((7 : Nat) = 9) = False by decide, show ((8 : Nat) = 9) = False by decide, show ((12 : Nat) = 9) = False by decide, false_and, if_false, true_and]
  refine ⟨h.1, h.2.1, h.2.2.1, h.2.2.2.1, h.2.2.2.2.1, h.2.2.2.2.2.1, h.2.2.2.2.2.2.1, h.2.2.2.2.2.2.2.1, ?_, h.2.2.2.2.2.2.2.2.2⟩
  split
  · unfold rkV
    split <;> omega
  · exact h.2.2.2.2.2.2.2.2.1
/-- those under notice leave -/
def enN (S : St) : Nat → St
  | 0 => S
  | l + 1 => if S 4 l 3 = 1 then loseS (up3 (enN S l) 4 l 3 3) l else enN S l
theorem enN_succ (S : St) (l : Nat) : enN S (l + 1) = if S 4 l 3 = 1 then loseS (up3 (enN S l) 4 l 3 3) l else enN S l := rfl
theorem enN_keep (S : St) : ∀ l, (∀ t, t ≠ 4 → enN S l t = S t) ∧ ∀ i, l ≤ i → ∀ k, enN S l 4 i k = S 4 i k
  | 0 => ⟨fun _ _ => rfl, fun _ _ _ => rfl⟩
  | l + 1 => by
    have h := enN_keep S l
    rw [enN_succ]
    split
    · refine ⟨fun t ht => ?_, fun i hi k => ?_⟩
      · rw [← h.1 t ht]
        funext a b
        simp [loseS, dropS, up3, ht]
      · rw [← h.2 i (by omega) k]
        simp [loseS, dropS, up3, show ¬ i = l by omega]
    · exact ⟨h.1, fun i hi k => h.2 i (by omega) k⟩
def endS (S : St) (i : Nat) : St := up3 (enN (loseS S i) (cN S)) 0 0 7 (-1)
/-- the loss is eaten -/
def lf3 (S : St) (i : Nat) : Int := S 0 0 5 - min (S 0 0 5) (S 4 i 4) - min (S 0 0 5 - min (S 0 0 5) (S 4 i 4)) (S 4 i 5)
def pd3 (S : St) (i : Nat) : Int := min (lf3 S i) (S 0 0 4)
def ea0 (S : St) (i : Nat) : St × Int := (up3 S 0 0 4 (S 0 0 4 - pd3 S i), lf3 S i - pd3 S i)
def ea1 (S : St) (i : Nat) : St × Int := eaSh (ea0 S i).1 (ea0 S i).2 1
def ea2 (S : St) (i : Nat) : St × Int := eaSh (ea1 S i).1 (ea1 S i).2 0
def ea3 (S : St) (i : Nat) : St × Int := eaAs (ea2 S i).1 (ea2 S i).2
def ea4 (S : St) (i : Nat) : St × Int := eaGn (ea3 S i).1 (ea3 S i).2
theorem CI_eaSh {S : St} (hI : CI S) {a : Int} (ha : 0 ≤ a ∧ a ≤ 100000000) (j : Int) : CI (eaSh S a j).1 ∧ 0 ≤ (eaSh S a j).2 ∧ (eaSh S a j).2 ≤ a := by
  have hw := shW_ok hI j
  have hp := partR_ok (po := S 10 0) (okW_ent (l := cN S) hI.2.2.2.2.2.1 hw ha)
  refine ⟨CI_eat hI hw ha (Or.inl ⟨rfl, fun i hi => ?_⟩), hp.2⟩
  have hc := hI.cnt
  have h10 : i < 10 := by unfold cN at hi; omega
  have h1 := hp.1 i h10
  have e : entS S (shW S j) (fun i => S 4 i 5) (cN S) 9 0 i = S 4 i 5 := by
    show (if 0 = 0 ∧ i < cN S then S 4 i 5 else S 9 0 i) = _
    rw [if_pos ⟨rfl, hi⟩]
  rw [e] at h1
  have h2 := (hI.mem h10).2.2.2.2.1
  show 0 ≤ S 4 i 5 - (prS S (shW S j) (fun i => S 4 i 5) a).1 i ∧ S 4 i 5 - (prS S (shW S j) (fun i => S 4 i 5) a).1 i ≤ 2000000
  unfold prS
  omega
theorem CI_eaAs {S : St} (hI : CI S) {a : Int} (ha : 0 ≤ a ∧ a ≤ 100000000) : CI (eaAs S a).1 ∧ 0 ≤ (eaAs S a).2 ∧ (eaAs S a).2 ≤ a := by
  have hw := asW_ok hI
  have hp := partR_ok (po := S 10 0) (okW_ent (l := cN S) hI.2.2.2.2.2.1 hw ha)
  exact ⟨CI_eat hI hw ha (Or.inr (Or.inr rfl)), hp.2⟩
theorem CI_eaGn {S : St} (hI : CI S) {a : Int} (ha : 0 ≤ a ∧ a ≤ 100000000) : CI (eaGn S a).1 ∧ 0 ≤ (eaGn S a).2 ∧ (eaGn S a).2 ≤ a := by
  have hw := gnW_ok hI
  have hp := partR_ok (po := S 10 0) (okW_ent (l := cN S) hI.2.2.2.2.2.1 hw ha)
  refine ⟨CI_eat hI hw ha (Or.inr (Or.inl ⟨rfl, fun i hi => ?_⟩)), hp.2⟩
  have hc := hI.cnt
  have h10 : i < 10 := by unfold cN at hi; omega
  have h1 := hp.1 i h10
  have e : entS S (gnW S) (fun i => S 4 i 7) (cN S) 9 0 i = S 4 i 7 := by
    show (if 0 = 0 ∧ i < cN S then S 4 i 7 else S 9 0 i) = _
    rw [if_pos ⟨rfl, hi⟩]
  rw [e] at h1
  have h2 := (hI.mem h10).2.2.2.2.2.2.1
  show 0 ≤ S 4 i 7 - (prS S (gnW S) (fun i => S 4 i 7) a).1 i ∧ S 4 i 7 - (prS S (gnW S) (fun i => S 4 i 7) a).1 i ≤ 1000000
  unfold prS
  omega
theorem CI_00 {S : St} (hI : CI S) {k : Nat} {x : Int} (hk : k = 4 ∧ 0 ≤ x ∧ x ≤ 1000000 ∨ k = 5 ∧ 0 ≤ x ∧ x ≤ 1000000 ∨ k = 6) : CI (up3 S 0 0 k x) := by
  obtain ⟨a1, a2, a3, a4, a5, a6, a7⟩ := hI
  rcases hk with ⟨rfl, hx⟩ | ⟨rfl, hx⟩ | rfl
  · exact ⟨a1, by show 0 ≤ x ∧ x ≤ _; omega, a3, a4, a5, a6, a7⟩
  · exact ⟨a1, a2, a3, by show 0 ≤ x ∧ x ≤ _; omega, a5, a6, a7⟩
  · exact ⟨a1, a2, a3, a4, a5, a6, a7⟩
theorem ea0_ok {S : St} (hI : CI S) {i : Nat} (hi : i < 10) : CI (ea0 S i).1 ∧ 0 ≤ (ea0 S i).2 ∧ (ea0 S i).2 ≤ 1000000 := by
  have h5 := hI.2.2.2.1
  have h4 := hI.2.1
  have hm := hI.mem hi
  have hm1 := hm.2.2.2.1
  have hm2 := hm.2.2.2.2.1
  have h1 : 0 ≤ lf3 S i ∧ lf3 S i ≤ 1000000 := by unfold lf3; omega
  have h2 : 0 ≤ pd3 S i ∧ pd3 S i ≤ S 0 0 4 ∧ pd3 S i ≤ lf3 S i := by unfold pd3; omega
  refine ⟨CI_00 hI (Or.inl ⟨rfl, by omega⟩), ?_⟩
  show 0 ≤ lf3 S i - pd3 S i ∧ lf3 S i - pd3 S i ≤ _
  omega
theorem ea_ok {S : St} (hI : CI S) {i : Nat} (hi : i < 10) : (CI (ea1 S i).1 ∧ 0 ≤ (ea1 S i).2 ∧ (ea1 S i).2 ≤ 1000000) ∧ (CI (ea2 S i).1 ∧ 0 ≤ (ea2 S i).2 ∧ (ea2 S i).2 ≤ 1000000) ∧ (CI (ea3 S i).1 ∧ 0 ≤ (ea3 S i).2 ∧ (ea3 S i).2 ≤ 1000000) ∧ CI (ea4 S i).1 ∧ 0 ≤ (ea4 S i).2 ∧ (ea4 S i).2 ≤ 1000000 := by
  have h0 := ea0_ok hI hi
  have h1 := CI_eaSh h0.1 (a := (ea0 S i).2) (by omega) 1
  have h1' : CI (ea1 S i).1 ∧ 0 ≤ (ea1 S i).2 ∧ (ea1 S i).2 ≤ 1000000 := ⟨h1.1, by unfold ea1; omega⟩
  have h2 := CI_eaSh h1'.1 (a := (ea1 S i).2) (by omega) 0
  have h2' : CI (ea2 S i).1 ∧ 0 ≤ (ea2 S i).2 ∧ (ea2 S i).2 ≤ 1000000 := ⟨h2.1, by unfold ea2; omega⟩
  have h3 := CI_eaAs h2'.1 (a := (ea2 S i).2) (by omega)
  have h3' : CI (ea3 S i).1 ∧ 0 ≤ (ea3 S i).2 ∧ (ea3 S i).2 ≤ 1000000 := ⟨h3.1, by unfold ea3; omega⟩
  have h4 := CI_eaGn h3'.1 (a := (ea3 S i).2) (by omega)
  exact ⟨h1', h2', h3', h4.1, by unfold ea4; omega⟩
def cl1 (S : St) : St := rkS (up3 (awN S (S 2 0 1).toNat).1 0 0 5 (max 0 (awN S (S 2 0 1).toNat).2)) (cN S)
def cl2 (S : St) (i : Nat) : St := up3 (ea4 (cl1 S) i).1 0 0 6 ((ea4 (cl1 S) i).1 0 0 6 + (ea4 (cl1 S) i).2)
def clS (S : St) (i : Nat) : St := endS (cl2 S i) i
theorem CI_aw {S : St} (hI : CI S) (l : Nat) : CI (awN S l).1 := by
  have hk := awN_keep S l
  refine CI_set hI (hk.1 0 (by omega)) (hk.1 2 (by omega)) (hk.1 7 (by omega)) (by unfold smP; rw [hk.1 8 (by omega), hk.1 9 (by omega), hk.1 10 (by omega)]; exact hI.2.2.2.2.2.1) (fun i hi => ?_)
  have h := hI.mem hi
  unfold MI at h ⊢
  rw [hk.2 i 1 (by omega), hk.2 i 2 (by omega), hk.2 i 3 (by omega), hk.2 i 4 (by omega), hk.2 i 5 (by omega), hk.2 i 6 (by omega), hk.2 i 7 (by omega), hk.2 i 8 (by omega), hk.2 i 9 (by omega), hk.2 i 12 (by omega), hk.1 5 (by omega)]
  exact h
theorem CI_cl1 {S : St} (hI : CI S) : CI (cl1 S) := by
  have hA := hI.2.2.2.2.1
  have hr := awN_rng hA (S 2 0 1).toNat (by have := hA.1; omega)
  have hA1 := hA.1
  exact CI_rk (CI_00 (CI_aw hI _) (Or.inr (Or.inl ⟨rfl, by omega⟩))) _
section XClose
variable {g : Gl} {S : St} {Ret : Option AV → St → Prop} {Thr : String → St → Prop}
theorem cn_fail {z v : Int} (hz : -2147483648 ≤ z ∧ z ≤ 2147483647) (hv : -2147483648 ≤ v ∧ v ≤ 2147483647) (hI : CI S)
    (hok : ∀ j : Nat, z = j → j < 10 → (j : Int) < S 0 0 3 → (1 ≤ v ∧ v ≤ 20) → actv S j → S 0 0 7 = -1 → Ret (some (vI (bookN S j v))) (failS S j v))
    (hB : ¬ (0 ≤ z ∧ z < S 0 0 3) → Thr E_B S) (hA : (0 ≤ z ∧ z < S 0 0 3) → ¬ (1 ≤ v ∧ v ≤ 20) → Thr E_A S) (hS : ∀ j : Nat, z = j → j < 10 → (j : Int) < S 0 0 3 → (1 ≤ v ∧ v ≤ 20) → ¬ (actv S j ∧ S 0 0 7 = -1) → Thr E_S S) : Cn g yX3_fail cX3_fail 5 (some .int) 7 112 4 [vR 0 0, vI z, vI v] S Ret Thr := by
  refine enter (L := [some (vR 0 0), some (vI z), some (vI v), none, none]) (by decide +kernel) (Nat.le_of_ble_eq_true rfl) rfl (fun K MM => ?_)
  have M := MM.mk
  have hc := hI.cnt
  have hcl := cN_le hI
  have hce := cN_eq hI
  have hf := hI.2.2.1
  refine r_aload_n M dX3_fail_0 rfl ?_
  refine r_iload_n M dX3_fail_1 rfl ?_
  refine r_callV1 MM dX3_fail_2 ck_X3_61 vk_X3_existing ⟨by omega, by omega, by omega⟩ ⟨by decide, by decide, rfl⟩ (by decide) (Nat.le_of_ble_eq_true rfl) (cn_existing hz hI.cnt (fun j ej hj hjc => ?_) hB)
  refine r_astore_3 M dX3_fail_5 (by decide) rfl ?_
  refine r_iload_n M dX3_fail_6 rfl ?_
  refine r_iconst M dX3_fail_7 ?_
  refine r_bipush M dX3_fail_8 rfl ?_
  refine r_callS3 MM dX3_fail_10 sl_X3_47 st_X3_requireBetween rfl ck_X3_47 ⟨by omega, by omega, by omega⟩ (Nat.le_of_ble_eq_true rfl) (cn_requireBetween hv (by omega) (by omega) (fun q2 => ?_) (fun q => hA (by omega) q))
  refine r_aload_n M dX3_fail_13 rfl ?_
  refine r_callS1 MM dX3_fail_14 sl_X3_65 st_X3_requireActive rfl ck_X3_65 ⟨by omega, by omega, by omega⟩ (Nat.le_of_ble_eq_true rfl) (cn_requireActive hj (by have h9 := hI.mem hj; unfold MI at h9; omega) (fun q3 => ?_) (fun q => hS j ej hj hjc q2 (fun w => q w.1)))
  refine r_aload_n M dX3_fail_17 rfl ?_
  refine r_callV0 MM dX3_fail_18 ck_X3_90 vk_X3_requireNoFailure ⟨by omega, by omega, by omega⟩ ⟨by decide, by decide, rfl⟩ (by decide) (Nat.le_of_ble_eq_true rfl) (cn_requireNoFailure (by omega) (fun q7 => ?_) (fun q => hS j ej hj hjc q2 (fun w => q w.2)))
  refine r_iconst M dX3_fail_21 ?_
  refine r_istore_4 M dX3_fail_22 (by decide) rfl ?_
  refine k_S (S1 := fS S 12 (fun i => S 4 i 5) 0) ?_ (fS_0 _ _ _).symm
  refine fz (P := fun l => K 4 24 [some (vR 0 0), some (vI z), some (vI v), some (vR 4 j), some (vI (l : Int))] [] (fS S 12 (fun i => S 4 i 5) l)) (m := cN S) ?_ ?_
  · have hMI := flS_MI hI j
    have hna : ¬ actv (flS S j) j := fun q => by
      have e : flS S j 4 j 3 = 2 := by simp [flS, up3]
      unfold actv at q
      omega
    have hmr := mvN_rng hj hMI (flS S j 4 j 1).toNat (by have := (hMI j hj).1; omega)
    have hmi1 := (hMI j hj).1
    have ez : up3 (up3 (fS S 12 (fun i => S 4 i 5) (cN S)) 0 0 7 z) 4 j 3 2 = flS S j := by rw [ej]; rfl
    have hbr : 0 ≤ bookN S j v ∧ bookN S j v ≤ 1000000 := by unfold bookN movS; omega
    refine r_iload M dX3_fail_24 rfl ?_
    refine r_aload_n M dX3_fail_26 rfl ?_
    refine r_getV M dX3_fail_27 fk_X3_29 (by decide) rfl (S 0 0 3) (by rfl) ?_
    refine r_icmp_ge M dX3_fail_30 (tgt := 59) rfl (by omega) (fun b30 => ?_) (fun b30 => by omega)
    refine r_aload_n M dX3_fail_59 rfl ?_
    refine r_iload_n M dX3_fail_60 rfl ?_
    refine r_putI M dX3_fail_61 pk_X3_42 (by decide) ?_
    refine r_aload_n M dX3_fail_64 rfl ?_
    refine r_iconst M dX3_fail_65 ?_
    refine r_putI M dX3_fail_66 pk_X3_85 (show (_ : Nat) < 10 by omega) ?_
    refine k_S ?_ ez
    refine r_iload_n M dX3_fail_69 rfl ?_
    refine r_aload_n M dX3_fail_70 rfl ?_
    refine r_aload_n M dX3_fail_71 rfl ?_
    refine r_callV1 MM dX3_fail_72 ck_X3_122 vk_X3_moveClients ⟨by omega, by omega, by omega⟩ ⟨by decide, by decide, rfl⟩ (by decide) (Nat.le_of_ble_eq_true rfl) (cn_moveClients hj hna hc hMI ?_)
    refine r_iadd M dX3_fail_75 ?_
    refine r_istore_4 M dX3_fail_76 (by decide) rfl ?_
    refine r_aload_n M dX3_fail_78 rfl ?_
    refine r_getR M dX3_fail_79 fk_X3_18 (by decide) rfl ?_
    refine r_iload M dX3_fail_82 rfl ?_
    refine r_callV1 MM dX3_fail_84 ck_X3_126 vk_X0_open ⟨by omega, by omega, by omega⟩ ⟨by decide, by decide, rfl⟩ (by decide) (Nat.le_of_ble_eq_true rfl) (cn_opn hbr ?_)
    refine r_iload M dX3_fail_87 rfl ?_
    refine r_iret MM dX3_fail_89 ?_
    exact hok j ej hj hjc q2 q3 q7
  · intro l hl hP
    refine r_iload M dX3_fail_24 rfl ?_
    refine r_aload_n M dX3_fail_26 rfl ?_
    refine r_getV M dX3_fail_27 fk_X3_29 (by decide) rfl (S 0 0 3) (by rfl) ?_
    refine r_icmp_ge M dX3_fail_30 (tgt := 59) rfl (by omega) (fun b30 => by omega) (fun b30 => ?_)
    refine r_aload_n M dX3_fail_33 rfl ?_
    refine r_getR M dX3_fail_34 fk_X3_11 (by decide) rfl ?_
    refine r_iload M dX3_fail_37 rfl ?_
    refine r_aaldM M (_) dX3_fail_39 rfl (by omega) ?_
    refine r_aload_n M dX3_fail_40 rfl ?_
    refine r_getR M dX3_fail_41 fk_X3_11 (by decide) rfl ?_
    refine r_iload M dX3_fail_44 rfl ?_
    refine r_aaldM M (_) dX3_fail_46 rfl (by omega) ?_
    refine r_getV M dX3_fail_47 fk_X3_116 (show (_ : Nat) < 10 by omega) rfl (S 4 l 5) (by rfl) ?_
    refine r_putI M dX3_fail_50 pk_X3_119 (show (_ : Nat) < 10 by omega) ?_
    refine r_iinc_4 M (_) dX3_fail_53 rfl (by decide) rfl ?_
    refine r_goto M dX3_fail_56 (tgt := 24) rfl ?_
    exact k_S hP (fS_s rfl)
theorem cn_awardLots (hI : CI S) (h : Ret (some (vI (awN S (S 2 0 1).toNat).2)) (awN S (S 2 0 1).toNat).1) : Cn g yX3_awardLots cX3_awardLots 4 (some .int) 1 24 0 [vR 0 0] S Ret Thr := by
  refine enter (L := [some (vR 0 0), none, none, none]) (by decide +kernel) (Nat.le_of_ble_eq_true rfl) rfl (fun K MM => ?_)
  have M := MM.mk
  have hA := hI.2.2.2.2.1
  have hA1 := hA.1
  refine r_iconst M dX3_awardLots_0 ?_
  refine r_istore_1 M dX3_awardLots_1 (by decide) rfl ?_
  refine r_iconst M dX3_awardLots_2 ?_
  refine r_istore_2 M dX3_awardLots_3 (by decide) rfl ?_
  refine fz (P := fun l => ∀ c3, K 0 4 [some (vR 0 0), some (vI (awN S l).2), some (vI (l : Int)), c3] [] (awN S l).1) (m := (S 2 0 1).toNat) ?_ ?_ _
  · intro c3
    have hk := awN_keep S (S 2 0 1).toNat
    refine r_iload_n M dX3_awardLots_4 rfl ?_
    refine r_aload_n M dX3_awardLots_5 rfl ?_
    refine r_getR M dX3_awardLots_6 fk_X3_18 (by decide) rfl ?_
    refine r_getV M dX3_awardLots_9 fk_X3_204 (by decide) rfl (S 2 0 1) (by rw [hk.1 2 (by omega)]) ?_
    refine r_icmp_ge M dX3_awardLots_12 (tgt := 71) rfl (by omega) (fun b12 => ?_) (fun b12 => by omega)
    refine r_iload_n M dX3_awardLots_71 rfl ?_
    refine r_iret MM dX3_awardLots_72 ?_
    exact h
  · intro l hl hP c3
    have hk := awN_keep S l
    have h7 : (awN S l).1 7 = S 7 := hk.1 7 (by omega)
    have hA2 : smA (awN S l).1 := smA_c (hk.1 2 (by omega)) h7 hA
    have hw := winr_rng hA (show l < 120 by omega)
    rw [awN_succ] at hP
    refine r_iload_n M dX3_awardLots_4 rfl ?_
    refine r_aload_n M dX3_awardLots_5 rfl ?_
    refine r_getR M dX3_awardLots_6 fk_X3_18 (by decide) rfl ?_
    refine r_getV M dX3_awardLots_9 fk_X3_204 (by decide) rfl (S 2 0 1) (by rw [hk.1 2 (by omega)]) ?_
    refine r_icmp_ge M dX3_awardLots_12 (tgt := 71) rfl (by omega) (fun b12 => by omega) (fun b12 => ?_)
    refine r_aload_n M dX3_awardLots_15 rfl ?_
    refine r_getR M dX3_awardLots_16 fk_X3_18 (by decide) rfl ?_
    refine r_iload_n M dX3_awardLots_19 rfl ?_
    refine r_callV1 MM dX3_awardLots_20 ck_X3_207 vk_X0_winnerOf ⟨by omega, by omega, by omega⟩ ⟨by decide, by decide, rfl⟩ (by decide) (Nat.le_of_ble_eq_true rfl) (cn_winnerV (winr_c h7 l) (by omega) hA2 ?_)
    refine r_istore_3 M dX3_awardLots_23 (by decide) rfl ?_
    refine r_iload_n M dX3_awardLots_24 rfl ?_
    refine r_iconst M dX3_awardLots_25 ?_
    refine r_icmp_ne M dX3_awardLots_26 (tgt := 38) rfl (by omega) (fun b26 => ?_) (fun b26 => ?_)
    · refine r_iload_n M dX3_awardLots_38 rfl ?_
      refine r_aload_n M dX3_awardLots_39 rfl ?_
      refine r_getR M dX3_awardLots_40 fk_X3_18 (by decide) rfl ?_
      refine r_iload_n M dX3_awardLots_43 rfl ?_
      refine r_iload_n M dX3_awardLots_44 rfl ?_
      refine r_callV2 MM dX3_awardLots_45 ck_X3_138 vk_X0_bidOf ⟨by omega, by omega, by omega⟩ ⟨by decide, by decide, rfl⟩ (by decide) (Nat.le_of_ble_eq_true rfl) (cn_bidOfV (winr S l).toNat l (by omega) rfl (by omega) (by omega) (v := S 7 (winr S l).toNat l) (by rw [h7]) ?_)
      refine r_isub M dX3_awardLots_48 ?_
      refine r_istore_1 M dX3_awardLots_49 (by decide) rfl ?_
      refine r_aload_n M dX3_awardLots_50 rfl ?_
      refine r_getR M dX3_awardLots_51 fk_X3_11 (by decide) rfl ?_
      refine r_iload_n M dX3_awardLots_54 rfl ?_
      refine r_aaldM M ((winr S l).toNat) dX3_awardLots_55 (by omega) (by omega) ?_
      refine r_dupR M dX3_awardLots_56 ?_
      refine r_getI M dX3_awardLots_57 fk_X3_174 (show (_ : Nat) < 10 by omega) rfl ?_
      refine r_iconst M dX3_awardLots_60 ?_
      refine r_iadd M dX3_awardLots_61 ?_
      refine r_putI M dX3_awardLots_62 pk_X3_174 (show (_ : Nat) < 10 by omega) ?_
      refine r_iinc_2 M (_) dX3_awardLots_65 rfl (by decide) rfl ?_
      refine r_goto M dX3_awardLots_68 (tgt := 4) rfl ?_
      first | (rw [if_pos b26] at hP; exact hP _) | (rw [if_neg b26] at hP; exact hP _)
    refine r_iincW_1 M (_) dX3_awardLots_29 rfl (by decide) rfl ?_
    refine r_goto M dX3_awardLots_35 (tgt := 65) rfl ?_
    refine r_iinc_2 M (_) dX3_awardLots_65 rfl (by decide) rfl ?_
    refine r_goto M dX3_awardLots_68 (tgt := 4) rfl ?_
    first | (rw [if_pos b26] at hP; exact hP _) | (rw [if_neg b26] at hP; exact hP _)
theorem cn_rankBidders (hI : CI S) (h : Ret none (rkS S (cN S))) : Cn g yX3_rankBidders cX3_rankBidders 2 none 3 71 0 [vR 0 0] S Ret Thr := by
  refine enter (L := [some (vR 0 0), none]) (by decide +kernel) (Nat.le_of_ble_eq_true rfl) rfl (fun K MM => ?_)
  have M := MM.mk
  have hcl := cN_le hI
  have hce := cN_eq hI
  have hA := hI.2.2.2.2.1
  refine r_iconst M dX3_rankBidders_0 ?_
  refine r_istore_1 M dX3_rankBidders_1 (by decide) rfl ?_
  refine k_S (S1 := rkS S 0) ?_ (rkS_0 S).symm
  refine fz (P := fun l => K 0 2 [some (vR 0 0), some (vI (l : Int))] [] (rkS S l)) (m := cN S) ?_ ?_
  · refine r_iload_n M dX3_rankBidders_2 rfl ?_
    refine r_aload_n M dX3_rankBidders_3 rfl ?_
    refine r_getV M dX3_rankBidders_4 fk_X3_29 (by decide) rfl (S 0 0 3) (by rfl) ?_
    refine r_icmp_ge M dX3_rankBidders_7 (tgt := 45) rfl (by omega) (fun b7 => ?_) (fun b7 => by omega)
    refine r_vret MM dX3_rankBidders_45 ?_
    exact h
  · intro l hl hP
    have hm := hI.mem (show l < 10 by omega)
    unfold MI at hm
    have hA2 : smA (rkS S l) := smA_c rfl rfl hA
    have hpc := poor_c (S := S) (S' := rkS S l) rfl rfl l
    refine r_iload_n M dX3_rankBidders_2 rfl ?_
    refine r_aload_n M dX3_rankBidders_3 rfl ?_
    refine r_getV M dX3_rankBidders_4 fk_X3_29 (by decide) rfl (S 0 0 3) (by rfl) ?_
    refine r_icmp_ge M dX3_rankBidders_7 (tgt := 45) rfl (by omega) (fun b7 => by omega) (fun b7 => ?_)
    refine r_aload_n M dX3_rankBidders_10 rfl ?_
    refine r_getR M dX3_rankBidders_11 fk_X3_11 (by decide) rfl ?_
    refine r_iload_n M dX3_rankBidders_14 rfl ?_
    refine r_aaldM M (_) dX3_rankBidders_15 rfl (by omega) ?_
    refine r_callV0 MM dX3_rankBidders_16 ck_X3_96 vk_X1_isActive ⟨by omega, by omega, by omega⟩ ⟨by decide, by decide, rfl⟩ (show (_ : Nat) < 10 by omega) (Nat.le_of_ble_eq_true rfl) (cn_isActiveV (by omega) (v := S 4 l 3) rfl (by omega) (fun hq => ?_) (fun hq => ?_))
    · refine r_if_eq M dX3_rankBidders_19 (tgt := 39) rfl (by omega) (fun b19 => by omega) (fun b19 => ?_)
      refine r_aload_n M dX3_rankBidders_22 rfl ?_
      refine r_getR M dX3_rankBidders_23 fk_X3_11 (by decide) rfl ?_
      refine r_iload_n M dX3_rankBidders_26 rfl ?_
      refine r_aaldM M (_) dX3_rankBidders_27 rfl (by omega) ?_
      refine r_aload_n M dX3_rankBidders_28 rfl ?_
      refine r_getR M dX3_rankBidders_29 fk_X3_18 (by decide) rfl ?_
      refine r_iload_n M dX3_rankBidders_32 rfl ?_
      refine r_callV1 MM dX3_rankBidders_33 ck_X3_210 vk_X0_bidPoorly ⟨by omega, by omega, by omega⟩ ⟨by decide, by decide, rfl⟩ (by decide) (Nat.le_of_ble_eq_true rfl) (cn_bidPoorly (by omega) hA2 (fun hq2 => ?_) (fun hq2 => ?_))
      · refine r_putZ M dX3_rankBidders_36 pk_X3_164 (show (_ : Nat) < 10 by omega) (by omega) ?_
        refine r_iinc_1 M (_) dX3_rankBidders_39 rfl (by decide) rfl ?_
        refine r_goto M dX3_rankBidders_42 (tgt := 2) rfl ?_
        first | (exact k_S hP (rkS_n hq)) | (exact k_S hP (rkS_y hq (by unfold rkV; rw [if_pos (hpc.mp hq2)]))) | (exact k_S hP (rkS_y hq (by unfold rkV; rw [if_neg (fun w => hq2 (hpc.mpr w))])))
      refine r_putZ M dX3_rankBidders_36 pk_X3_164 (show (_ : Nat) < 10 by omega) (by omega) ?_
      refine r_iinc_1 M (_) dX3_rankBidders_39 rfl (by decide) rfl ?_
      refine r_goto M dX3_rankBidders_42 (tgt := 2) rfl ?_
      first | (exact k_S hP (rkS_n hq)) | (exact k_S hP (rkS_y hq (by unfold rkV; rw [if_pos (hpc.mp hq2)]))) | (exact k_S hP (rkS_y hq (by unfold rkV; rw [if_neg (fun w => hq2 (hpc.mpr w))])))
    refine r_if_eq M dX3_rankBidders_19 (tgt := 39) rfl (by omega) (fun b19 => ?_) (fun b19 => by omega)
    refine r_iinc_1 M (_) dX3_rankBidders_39 rfl (by decide) rfl ?_
    refine r_goto M dX3_rankBidders_42 (tgt := 2) rfl ?_
    first | (exact k_S hP (rkS_n hq)) | (exact k_S hP (rkS_y hq (by unfold rkV; rw [if_pos (hpc.mp hq2)]))) | (exact k_S hP (rkS_y hq (by unfold rkV; rw [if_neg (fun w => hq2 (hpc.mpr w))])))
theorem cn_endFailure {i : Nat} (hi : i < 10) (hI : CI S) (h : Ret none (endS S i)) : Cn g yX3_endFailure cX3_endFailure 3 none 2 40 0 [vR 0 0, vR 4 i] S Ret Thr := by
  refine enter (L := [some (vR 0 0), some (vR 4 i), none]) (by decide +kernel) (Nat.le_of_ble_eq_true rfl) rfl (fun K MM => ?_)
  have M := MM.mk
  have hcl := cN_le hI
  have hce := cN_eq hI
  refine r_aload_n M dX3_endFailure_0 rfl ?_
  refine r_callV0 MM dX3_endFailure_1 ck_X3_213 vk_X1_loseAll ⟨by omega, by omega, by omega⟩ ⟨by decide, by decide, rfl⟩ (show (_ : Nat) < 10 by omega) (Nat.le_of_ble_eq_true rfl) (cn_loseAll hi ?_)
  refine r_iconst M dX3_endFailure_4 ?_
  refine r_istore_2 M dX3_endFailure_5 (by decide) rfl ?_
  refine fz (P := fun l => K 0 6 [some (vR 0 0), some (vR 4 i), some (vI (l : Int))] [] (enN (loseS S i) l)) (m := cN S) ?_ ?_
  · have hk := enN_keep (loseS S i) (cN S)
    refine r_iload_n M dX3_endFailure_6 rfl ?_
    refine r_aload_n M dX3_endFailure_7 rfl ?_
    refine r_getV M dX3_endFailure_8 fk_X3_29 (by decide) rfl (S 0 0 3) (by rw [hk.1 0 (by omega)]; rfl) ?_
    refine r_icmp_ge M dX3_endFailure_11 (tgt := 52) rfl (by omega) (fun b11 => ?_) (fun b11 => by omega)
    refine r_aload_n M dX3_endFailure_52 rfl ?_
    refine r_iconst M dX3_endFailure_53 ?_
    refine r_putI M dX3_endFailure_54 pk_X3_42 (by decide) ?_
    refine r_vret MM dX3_endFailure_57 ?_
    exact h
  · intro l hl hP
    have hk := enN_keep (loseS S i) l
    have hm := hI.mem (show l < 10 by omega)
    unfold MI at hm
    have e3 : loseS S i 4 l 3 = S 4 l 3 := by simp [loseS, dropS, up3]
    rw [enN_succ, e3] at hP
    refine r_iload_n M dX3_endFailure_6 rfl ?_
    refine r_aload_n M dX3_endFailure_7 rfl ?_
    refine r_getV M dX3_endFailure_8 fk_X3_29 (by decide) rfl (S 0 0 3) (by rw [hk.1 0 (by omega)]; rfl) ?_
    refine r_icmp_ge M dX3_endFailure_11 (tgt := 52) rfl (by omega) (fun b11 => by omega) (fun b11 => ?_)
    refine r_aload_n M dX3_endFailure_14 rfl ?_
    refine r_getR M dX3_endFailure_15 fk_X3_11 (by decide) rfl ?_
    refine r_iload_n M dX3_endFailure_18 rfl ?_
    refine r_aaldM M (_) dX3_endFailure_19 rfl (by omega) ?_
    refine r_getV M dX3_endFailure_20 fk_X3_85 (show (_ : Nat) < 10 by omega) rfl (S 4 l 3) (by rw [hk.2 l (Nat.le_refl _)]; exact e3) ?_
    refine r_iconst M dX3_endFailure_23 ?_
    refine r_icmp_ne M dX3_endFailure_24 (tgt := 46) rfl (by omega) (fun b24 => ?_) (fun b24 => ?_)
    · refine r_iinc_2 M (_) dX3_endFailure_46 rfl (by decide) rfl ?_
      refine r_goto M dX3_endFailure_49 (tgt := 6) rfl ?_
      first | (rw [if_pos b24] at hP; exact hP) | (rw [if_neg b24] at hP; exact hP)
    refine r_aload_n M dX3_endFailure_27 rfl ?_
    refine r_getR M dX3_endFailure_28 fk_X3_11 (by decide) rfl ?_
    refine r_iload_n M dX3_endFailure_31 rfl ?_
    refine r_aaldM M (_) dX3_endFailure_32 rfl (by omega) ?_
    refine r_iconst M dX3_endFailure_33 ?_
    refine r_putI M dX3_endFailure_34 pk_X3_85 (show (_ : Nat) < 10 by omega) ?_
    refine r_aload_n M dX3_endFailure_37 rfl ?_
    refine r_getR M dX3_endFailure_38 fk_X3_11 (by decide) rfl ?_
    refine r_iload_n M dX3_endFailure_41 rfl ?_
    refine r_aaldM M (_) dX3_endFailure_42 rfl (by omega) ?_
    refine r_callV0 MM dX3_endFailure_43 ck_X3_213 vk_X1_loseAll ⟨by omega, by omega, by omega⟩ ⟨by decide, by decide, rfl⟩ (show (_ : Nat) < 10 by omega) (Nat.le_of_ble_eq_true rfl) (cn_loseAll (by omega) ?_)
    refine r_iinc_2 M (_) dX3_endFailure_46 rfl (by decide) rfl ?_
    refine r_goto M dX3_endFailure_49 (tgt := 6) rfl ?_
    first | (rw [if_pos b24] at hP; exact hP) | (rw [if_neg b24] at hP; exact hP)
theorem cn_eatLoss {i : Nat} (hi : i < 10) (hI : CI S) (h : Ret (some (vI (ea4 S i).2)) (ea4 S i).1) : Cn g yX3_eatLoss cX3_eatLoss 4 (some .int) 5 120 0 [vR 0 0, vR 4 i] S Ret Thr := by
  refine enter (L := [some (vR 0 0), some (vR 4 i), none, none]) (by decide +kernel) (Nat.le_of_ble_eq_true rfl) rfl (fun K MM => ?_)
  have M := MM.mk
  have h5 := hI.2.2.2.1
  have h4 := hI.2.1
  have hm := hI.mem hi
  unfold MI at hm
  have h0 := ea0_ok hI hi
  have hh := ea_ok hI hi
  have hl3 : lf3 S i = S 0 0 5 - min (S 0 0 5) (S 4 i 4) - min (S 0 0 5 - min (S 0 0 5) (S 4 i 4)) (S 4 i 5) := rfl
  refine r_aload_n M dX3_eatLoss_0 rfl ?_
  refine r_getI M dX3_eatLoss_1 fk_X3_36 (by decide) rfl ?_
  refine r_istore_2 M dX3_eatLoss_4 (by decide) rfl ?_
  refine r_iload_n M dX3_eatLoss_5 rfl ?_
  refine r_iload_n M dX3_eatLoss_6 rfl ?_
  refine r_aload_n M dX3_eatLoss_7 rfl ?_
  refine r_getI M dX3_eatLoss_8 fk_X3_100 (show (_ : Nat) < 10 by omega) rfl ?_
  refine r_min M dX3_eatLoss_11 mm_X3_188 (by omega) ⟨by omega, by omega⟩ (Nat.le_of_ble_eq_true rfl) ?_
  refine r_isub M dX3_eatLoss_14 ?_
  refine r_istore_2 M dX3_eatLoss_15 (by decide) rfl ?_
  refine r_iload_n M dX3_eatLoss_16 rfl ?_
  refine r_iload_n M dX3_eatLoss_17 rfl ?_
  refine r_aload_n M dX3_eatLoss_18 rfl ?_
  refine r_getI M dX3_eatLoss_19 fk_X3_116 (show (_ : Nat) < 10 by omega) rfl ?_
  refine r_min M dX3_eatLoss_22 mm_X3_188 (by omega) ⟨by omega, by omega⟩ (Nat.le_of_ble_eq_true rfl) ?_
  refine r_isub M dX3_eatLoss_25 ?_
  refine r_istore_2 M dX3_eatLoss_26 (by decide) rfl ?_
  refine r_iload_n M dX3_eatLoss_27 rfl ?_
  refine r_aload_n M dX3_eatLoss_28 rfl ?_
  refine r_getI M dX3_eatLoss_29 fk_X3_33 (by decide) rfl ?_
  refine r_min M dX3_eatLoss_32 mm_X3_188 (by omega) ⟨by omega, by omega⟩ (Nat.le_of_ble_eq_true rfl) ?_
  refine r_istore_3 M dX3_eatLoss_35 (by decide) rfl ?_
  refine r_aload_n M dX3_eatLoss_36 rfl ?_
  refine r_dupR M dX3_eatLoss_37 ?_
  refine r_getI M dX3_eatLoss_38 fk_X3_33 (by decide) rfl ?_
  refine r_iload_n M dX3_eatLoss_41 rfl ?_
  refine r_isub M dX3_eatLoss_42 ?_
  refine r_putI M dX3_eatLoss_43 pk_X3_33 (by decide) ?_
  refine r_iload_n M dX3_eatLoss_46 rfl ?_
  refine r_iload_n M dX3_eatLoss_47 rfl ?_
  refine r_isub M dX3_eatLoss_48 ?_
  refine r_istore_2 M dX3_eatLoss_49 (by decide) rfl ?_
  refine r_aload_n M dX3_eatLoss_50 rfl ?_
  refine r_iload_n M dX3_eatLoss_51 rfl ?_
  refine r_iconst M dX3_eatLoss_52 ?_
  refine r_callV2 MM dX3_eatLoss_53 ck_X3_216 vk_X3_eatShares ⟨by omega, by omega, by omega⟩ ⟨by decide, by decide, rfl⟩ (by decide) (Nat.le_of_ble_eq_true rfl) (cn_eatShares (a := (ea0 S i).2) (by omega) h0.1 (by omega) ?_)
  refine r_istore_2 M dX3_eatLoss_56 (by decide) rfl ?_
  refine r_aload_n M dX3_eatLoss_57 rfl ?_
  refine r_iload_n M dX3_eatLoss_58 rfl ?_
  refine r_iconst M dX3_eatLoss_59 ?_
  refine r_callV2 MM dX3_eatLoss_60 ck_X3_216 vk_X3_eatShares ⟨by omega, by omega, by omega⟩ ⟨by decide, by decide, rfl⟩ (by decide) (Nat.le_of_ble_eq_true rfl) (cn_eatShares (a := (ea1 S i).2) (by omega) hh.1.1 (by omega) ?_)
  refine r_istore_2 M dX3_eatLoss_63 (by decide) rfl ?_
  refine r_aload_n M dX3_eatLoss_64 rfl ?_
  refine r_iload_n M dX3_eatLoss_65 rfl ?_
  refine r_callV1 MM dX3_eatLoss_66 ck_X3_220 vk_X3_eatAssessments ⟨by omega, by omega, by omega⟩ ⟨by decide, by decide, rfl⟩ (by decide) (Nat.le_of_ble_eq_true rfl) (cn_eatAssessments (a := (ea2 S i).2) hh.2.1.1 (by omega) ?_)
  refine r_istore_2 M dX3_eatLoss_69 (by decide) rfl ?_
  refine r_aload_n M dX3_eatLoss_70 rfl ?_
  refine r_iload_n M dX3_eatLoss_71 rfl ?_
  refine r_callV1 MM dX3_eatLoss_72 ck_X3_223 vk_X3_eatGains ⟨by omega, by omega, by omega⟩ ⟨by decide, by decide, rfl⟩ (by decide) (Nat.le_of_ble_eq_true rfl) (cn_eatGains (a := (ea3 S i).2) hh.2.2.1.1 (by omega) ?_)
  refine r_iret MM dX3_eatLoss_75 ?_
  exact h
theorem cn_close (hI : CI S) (hok : ∀ i : Nat, S 0 0 7 = i → i < 10 → Ret (some (vI (ea4 (cl1 S) i).2)) (clS S i)) (hS : S 0 0 7 = -1 → Thr E_S S) : Cn g yX3_close cX3_close 2 (some .int) 6 143 1 [vR 0 0] S Ret Thr := by
  refine enter (L := [some (vR 0 0), none]) (by decide +kernel) (Nat.le_of_ble_eq_true rfl) rfl (fun K MM => ?_)
  have M := MM.mk
  have hf := hI.2.2.1
  have hA := hI.2.2.2.2.1
  have hA1 := hA.1
  have hr := awN_rng hA (S 2 0 1).toNat (by omega)
  have hk := awN_keep S (S 2 0 1).toNat
  have hIa : CI (up3 (awN S (S 2 0 1).toNat).1 0 0 5 (max 0 (awN S (S 2 0 1).toNat).2)) := CI_00 (CI_aw hI _) (Or.inr (Or.inl ⟨rfl, by omega⟩))
  have h1 := CI_cl1 hI
  have e1 : rkS (up3 (awN S (S 2 0 1).toNat).1 0 0 5 (max 0 (awN S (S 2 0 1).toNat).2)) (cN (up3 (awN S (S 2 0 1).toNat).1 0 0 5 (max 0 (awN S (S 2 0 1).toNat).2))) = cl1 S := by
    have : cN (up3 (awN S (S 2 0 1).toNat).1 0 0 5 (max 0 (awN S (S 2 0 1).toNat).2)) = cN S := by
      unfold cN
      show ((awN S (S 2 0 1).toNat).1 0 0 3).toNat = _
      rw [hk.1 0 (by omega)]
    rw [this]
    rfl
  have e7 : cl1 S 0 0 7 = S 0 0 7 := by
    show (awN S (S 2 0 1).toNat).1 0 0 7 = _
    rw [hk.1 0 (by omega)]
  refine r_aload_n M dX3_close_0 rfl ?_
  refine r_getI M dX3_close_1 fk_X3_42 (by decide) rfl ?_
  refine r_iconst M dX3_close_4 ?_
  refine r_icmp_ne M dX3_close_5 (tgt := 18) rfl (by omega) (fun b5 => ?_) (fun b5 => ?_)
  rotate_left
  · refine r_throw MM tk_51_145_55 dX3_close_8 dX3_close_11 dX3_close_12 dX3_close_14 dX3_close_17 ⟨by omega, by omega, by omega⟩ (Nat.le_of_ble_eq_true rfl) ?_
    exact hS b5
  refine r_aload_n M dX3_close_18 rfl ?_
  refine r_iconst M dX3_close_19 ?_
  refine r_aload_n M dX3_close_20 rfl ?_
  refine r_callV0 MM dX3_close_21 ck_X3_147 vk_X3_awardLots ⟨by omega, by omega, by omega⟩ ⟨by decide, by decide, rfl⟩ (by decide) (Nat.le_of_ble_eq_true rfl) (cn_awardLots hI ?_)
  refine r_max M dX3_close_24 mm_X3_150 (by omega) ⟨by omega, by omega⟩ (Nat.le_of_ble_eq_true rfl) ?_
  refine r_putI M dX3_close_27 pk_X3_36 (by decide) ?_
  refine r_aload_n M dX3_close_30 rfl ?_
  refine r_callV0 MM dX3_close_31 ck_X3_155 vk_X3_rankBidders ⟨by omega, by omega, by omega⟩ ⟨by decide, by decide, rfl⟩ (by decide) (Nat.le_of_ble_eq_true rfl) (cn_rankBidders hIa ?_)
  have hi9 : (S 0 0 7).toNat < 10 := by omega
  have hh := ea_ok h1 hi9
  have e7b : cl2 S (S 0 0 7).toNat 0 0 7 = S 0 0 7 := by
    show (ea4 (cl1 S) (S 0 0 7).toNat).1 0 0 7 = _
    exact e7
  have h2 : CI (cl2 S (S 0 0 7).toNat) := CI_00 hh.2.2.2.1 (Or.inr (Or.inr rfl))
  refine k_S (S1 := cl1 S) ?_ e1
  refine r_aload_n M dX3_close_34 rfl ?_
  refine r_aload_n M dX3_close_35 rfl ?_
  refine r_getR M dX3_close_36 fk_X3_11 (by decide) rfl ?_
  refine r_aload_n M dX3_close_39 rfl ?_
  refine r_getV M dX3_close_40 fk_X3_42 (by decide) rfl (S 0 0 7) (by exact e7) ?_
  refine r_aaldM M ((S 0 0 7).toNat) dX3_close_43 (by omega) (by omega) ?_
  refine r_callV1 MM dX3_close_44 ck_X3_158 vk_X3_eatLoss ⟨by omega, by omega, by omega⟩ ⟨by decide, by decide, rfl⟩ (by decide) (Nat.le_of_ble_eq_true rfl) (cn_eatLoss hi9 h1 ?_)
  refine r_istore_1 M dX3_close_47 (by decide) rfl ?_
  refine r_aload_n M dX3_close_48 rfl ?_
  refine r_dupR M dX3_close_49 ?_
  refine r_getI M dX3_close_50 fk_X3_39 (by decide) rfl ?_
  refine r_iload_n M dX3_close_53 rfl ?_
  refine r_iadd M dX3_close_54 ?_
  refine r_putI M dX3_close_55 pk_X3_39 (by decide) ?_
  refine r_aload_n M dX3_close_58 rfl ?_
  refine r_aload_n M dX3_close_59 rfl ?_
  refine r_getR M dX3_close_60 fk_X3_11 (by decide) rfl ?_
  refine r_aload_n M dX3_close_63 rfl ?_
  refine r_getV M dX3_close_64 fk_X3_42 (by decide) rfl (S 0 0 7) (by exact e7b) ?_
  refine r_aaldM M ((S 0 0 7).toNat) dX3_close_67 (by omega) (by omega) ?_
  refine r_callV1 MM dX3_close_68 ck_X3_161 vk_X3_endFailure ⟨by omega, by omega, by omega⟩ ⟨by decide, by decide, rfl⟩ (by decide) (Nat.le_of_ble_eq_true rfl) (cn_endFailure hi9 h2 ?_)
  refine r_iload_n M dX3_close_71 rfl ?_
  refine r_iret MM dX3_close_72 ?_
  exact hok (S 0 0 7).toNat (by omega) hi9
end XClose
