/-! ===== the relation between the two sides, kept by every call ===== -/
def RS (S : St) : Prop := S 0 0 3 = S 11 0 9 ∧ S 0 0 4 = S 11 0 15 ∧ S 0 0 5 = S 11 0 16 ∧ S 0 0 6 = S 11 0 17 ∧ S 0 0 7 = S 11 0 18
def RFi (S : St) (i : Nat) : Prop := S 4 i 3 = S 17 0 i ∧ S 4 i 4 = S 12 0 i ∧ S 4 i 5 = S 13 0 i ∧ S 4 i 6 = S 14 0 i ∧ S 4 i 7 = S 15 0 i ∧ S 4 i 8 = S 16 0 i ∧ S 4 i 9 = S 18 0 i ∧ S 4 i 10 = S 19 0 i ∧ S 4 i 11 = S 20 0 i ∧ S 4 i 12 = S 25 0 i
def trB (x : Int) : Int := if x = 5000 then -1001 else x
def RB (S : St) : Prop := S 0 0 7 ≠ -1 → S 2 0 1 = S 11 0 19 ∧ ∀ i, i < 10 → ∀ l : Nat, (l : Int) < S 2 0 1 → S 7 i l = trB (S 24 0 (10 * l + i)) ∧ (S 0 0 3 ≤ i → S 7 i l = -1001)
def RZ (S : St) : Prop := ∀ k : Nat, k < 10 → S 0 0 3 ≤ k → S 8 0 k = 0 ∧ S 4 k 12 = 0 ∧ S 4 k 2 = 0
def RCi (S : St) (s : Nat → Nat) (i : Nat) : Prop := (S 4 i 1 ≤ S 4 i 2 ∧ S 4 i 2 ≤ S 4 i 6 ∧ S 4 i 2 = lotM S i (nC S)) ∧ (∀ k : Nat, (k : Int) < S 4 i 1 → s k < nC S ∧ S 21 0 (s k) = i ∧ S 22 0 (s k) = S 5 i k) ∧ (∀ k k' : Nat, k < k' → (k' : Int) < S 4 i 1 → S 23 0 (s k) < S 23 0 (s k')) ∧ (∀ c, c < nC S → S 21 0 c = i → ∃ k : Nat, (k : Int) < S 4 i 1 ∧ s k = c)
def RC (S : St) : Prop := ∀ i, i < 10 → ∃ s : Nat → Nat, RCi S s i
def RX (S : St) : Prop := ∀ c, c < nC S → 1 ≤ S 22 0 c ∧ S 23 0 c < S 11 0 13 ∧ (S 21 0 c < S 11 0 9)
def RT (t : Nat) (S : St) : Prop := S 11 0 14 ≤ t ∧ S 11 0 13 ≤ 101 * t ∧ (0 ≤ S 0 0 6 ∧ S 0 0 6 ≤ 1000000 * t) ∧ ∀ i, i < 10 → (0 ≤ S 4 i 10 ∧ S 4 i 10 ≤ 2000000 * t) ∧ 0 ≤ S 4 i 11 ∧ S 4 i 11 ≤ 120 * t
/-- the member that fails is marked so -/
def RW (S : St) : Prop := S 0 0 7 ≠ -1 → S 4 (S 0 0 7).toNat 3 = 2
def Inv (t : Nat) (S : St) : Prop := CI S ∧ mI S ∧ RS S ∧ (∀ i, i < 10 → RFi S i) ∧ RB S ∧ RZ S ∧ RC S ∧ RX S ∧ RT t S ∧ RW S
theorem Inv.ci {t : Nat} {S : St} (h : Inv t S) : CI S := h.1
theorem Inv.mi {t : Nat} {S : St} (h : Inv t S) : mI S := h.2.1
theorem Inv.rs {t : Nat} {S : St} (h : Inv t S) : RS S := h.2.2.1
theorem Inv.rf {t : Nat} {S : St} (h : Inv t S) {i : Nat} (hi : i < 10) : RFi S i := h.2.2.2.1 i hi
theorem Inv.rb {t : Nat} {S : St} (h : Inv t S) : RB S := h.2.2.2.2.1
theorem Inv.rz {t : Nat} {S : St} (h : Inv t S) : RZ S := h.2.2.2.2.2.1
theorem Inv.rc {t : Nat} {S : St} (h : Inv t S) : RC S := h.2.2.2.2.2.2.1
theorem Inv.rx {t : Nat} {S : St} (h : Inv t S) : RX S := h.2.2.2.2.2.2.2.1
theorem Inv.rt {t : Nat} {S : St} (h : Inv t S) : RT t S := h.2.2.2.2.2.2.2.2.1
theorem Inv.rwf {t : Nat} {S : St} (h : Inv t S) : RW S := h.2.2.2.2.2.2.2.2.2
theorem Inv.suc {t : Nat} {S : St} (h : Inv t S) : Inv (t + 1) S := ⟨h.ci, h.mi, h.rs, h.2.2.2.1, h.rb, h.rz, h.rc, h.rx, (by
  obtain ⟨h1, h2, h3, h4⟩ := h.rt
  refine ⟨by omega, by omega, by omega, fun i hi => ?_⟩
  have h5 := h4 i hi
  omega), h.rwf⟩
theorem Inv.th {t : Nat} {S : St} (h : Inv t S) (p : Int) : Inv t (thr S p) := h
theorem Inv.ot {t : Nat} {S : St} (h : Inv t S) (x : Int) : Inv t (up3 S 29 0 0 x) := h
theorem Inv.act {t : Nat} {S : St} (h : Inv t S) {i : Nat} (hi : i < 10) : actv S i ↔ mact S i := by
  have e := (h.rf hi).1
  unfold actv mact
  rw [e]
theorem Inv.cnt {t : Nat} {S : St} (h : Inv t S) : S 0 0 3 = S 11 0 9 := h.rs.1
