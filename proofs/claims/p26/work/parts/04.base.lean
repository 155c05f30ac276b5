/-! ===== values as whole numbers; one world of cells for both sides ===== -/
abbrev AV : Type := Int ⊕ Int ⊕ (Nat × Nat) ⊕ Nat
abbrev vI (x : Int) : AV := Sum.inl x
abbrev vL (x : Int) : AV := Sum.inr (Sum.inl x)
abbrev vR (t i : Nat) : AV := Sum.inr (Sum.inr (Sum.inl (t, i)))
abbrev vX (a : Nat) : AV := Sum.inr (Sum.inr (Sum.inr a))
abbrev St : Type := Nat → Nat → Nat → Int
/-- the launch, the numbers of classes and slots, the addresses, the numbers of the array classes -/
abbrev Gl : Type := Launch × va_G × (Nat → Nat → Nat) × (Nat → ClassId)
def cv (g : Gl) : AV → Value
  | .inl x => .int (Int32.ofInt x)
  | .inr (.inl x) => .long (Int64.ofInt x)
  | .inr (.inr (.inl q)) => .ref (g.2.2.1 q.1 q.2)
  | .inr (.inr (.inr a)) => .ref a
def up3 (S : St) (t i k : Nat) (v : Int) : St := fun a b c => if a = t ∧ b = i ∧ c = k then v else S a b c
def upT (S : St) (t i : Nat) (f : Nat → Int) : St := fun a b => if a = t ∧ b = i then f else S a b
theorem up3_T (S : St) (t i k : Nat) (v : Int) : up3 S t i k v = upT S t i (fun c => if c = k then v else S t i c) := by
  funext a b c
  unfold up3 upT
  by_cases h : a = t ∧ b = i
  · obtain ⟨rfl, rfl⟩ := h
    by_cases hc : c = k <;> simp [hc]
  · rw [if_neg h, if_neg (fun q => h ⟨q.1, q.2.1⟩)]
/-- how many of a kind -/
def ctn : Nat → Nat | 4 => 10 | 5 => 10 | 7 => 10 | _ => 1
def prs : List (Nat × Nat) := (List.range 13).flatMap fun t => (List.range (ctn t)).map fun i => (t, i)
theorem mem_prs {t i : Nat} (ht : t < 13) (hi : i < ctn t) : (t, i) ∈ prs := List.mem_flatMap.mpr ⟨t, List.mem_range.mpr ht, List.mem_map.mpr ⟨i, List.mem_range.mpr hi, rfl⟩⟩
theorem prs_nd : prs.Nodup := by decide +kernel
theorem prs_inj {i j : Nat} {q : Nat × Nat} (h1 : prs[i]? = some q) (h2 : prs[j]? = some q) : i = j := by
  have hi : i < prs.length := (List.getElem?_eq_some_iff.mp h1).1
  exact (List.getElem?_inj hi prs_nd).mp (h1.trans h2.symm)
/-- 0 to 3: an object of that number in vwCl; 5 whole numbers, 6 references -/
def kd : Nat → Nat | 0 => 3 | 2 => 0 | 3 => 2 | 4 => 1 | 1 => 6 | 6 => 6 | _ => 5
def nf : Nat → Nat | 0 => 8 | 2 => 2 | 3 => 3 | 4 => 13 | 5 => 100 | 7 => 120 | 11 => 50 | _ => 10
def rfp (t k : Nat) : Option Nat := match t, k with
  | 0, 0 => some 1 | 0, 1 => some 2 | 0, 2 => some 3 | 2, 0 => some 6 | 3, 0 => some 8 | 3, 1 => some 9 | 3, 2 => some 10 | 4, 0 => some 5
  | _, _ => none
def slt (g : Gl) (t i k : Nat) (z : Int) : Value := match rfp t k with | some u => .ref (g.2.2.1 u i) | none => .int (Int32.ofInt z)
def en (g : Gl) (t i : Nat) (f : Nat → Int) : va_E :=
  if kd t < 5 then .inr (kd t, (List.range (nf t)).map fun k => slt g t i k (f k))
  else if kd t = 5 then .inl (g.2.2.2 0, nf t, .inl fun k => Int32.ofInt (f k))
  else .inl (g.2.2.2 (if t = 1 then 1 else 2), nf t, .inr (.inr (.inr (.inr fun k => some (g.2.2.1 (if t = 1 then 4 else 7) k)))))
def wl (g : Gl) (S : St) : va_W := prs.map fun p => (g.2.2.1 p.1 p.2, en g p.1 p.2 (S p.1 p.2))
def tyl (g : Gl) : List (ClassId × FieldType) := [(g.2.2.2 0, .int), (g.2.2.2 1, .object RX1), (g.2.2.2 2, .array .int)]
theorem wl_get (g : Gl) (S : St) {t i : Nat} (ht : t < 13) (hi : i < ctn t) : ∃ q : Nat, prs[q]? = some (t, i) ∧ (wl g S)[q]? = some (g.2.2.1 t i, en g t i (S t i)) := by
  obtain ⟨q, hq⟩ := List.getElem?_of_mem (mem_prs ht hi)
  exact ⟨q, hq, by simp [wl, hq]⟩
theorem wl_set (g : Gl) (S : St) {t i q : Nat} (hq : prs[q]? = some (t, i)) (f : Nat → Int) : (wl g S).set q (g.2.2.1 t i, en g t i f) = wl g (upT S t i f) := by
  apply List.ext_getElem?
  intro j
  have hl : q < prs.length := (List.getElem?_eq_some_iff.mp hq).1
  rw [List.getElem?_set]
  by_cases e : q = j
  · subst e
    have hl2 : q < (wl g S).length := by simp only [wl, List.length_map]; exact hl
    rw [if_pos rfl, if_pos hl2]
    simp only [wl, List.getElem?_map, hq, Option.map_some, upT]
    simp
  · rw [if_neg e]
    simp only [wl, List.getElem?_map]
    cases h : prs[j]? with
    | none => rfl
    | some p =>
      obtain ⟨a, b⟩ := p
      have hn : ¬ (a = t ∧ b = i) := fun q => e (prs_inj hq (by rw [h, q.1, q.2]))
      simp only [Option.map_some, upT, if_neg hn]
theorem en_obj (g : Gl) {t : Nat} (i : Nat) (f : Nat → Int) (h : kd t < 5) : en g t i f = .inr (kd t, (List.range (nf t)).map fun k => slt g t i k (f k)) := by
  unfold en
  rw [if_pos h]
theorem en_int (g : Gl) {t : Nat} (i : Nat) (f : Nat → Int) (h : kd t = 5) : en g t i f = .inl (g.2.2.2 0, nf t, .inl fun k => Int32.ofInt (f k)) := by
  unfold en
  rw [if_neg (by omega), if_pos h]
theorem en_ref (g : Gl) {t : Nat} (i : Nat) (f : Nat → Int) (h : kd t = 6) : en g t i f = .inl (g.2.2.2 (if t = 1 then 1 else 2), nf t, .inr (.inr (.inr (.inr fun k => some (g.2.2.1 (if t = 1 then 4 else 7) k))))) := by
  unfold en
  rw [if_neg (by omega), if_neg (by omega)]
theorem slots_get {n k : Nat} (F : Nat → Value) (h : k < n) : ((List.range n).map F)[k]? = some (F k) := by simp [h]
theorem slots_set {n k : Nat} (F G : Nat → Value) (hk : ∀ j, j ≠ k → F j = G j) : ((List.range n).map F).set k (G k) = (List.range n).map G := by
  apply List.ext_getElem?
  intro j
  rw [List.getElem?_set]
  by_cases e : k = j
  · subst e
    by_cases h : k < n <;> simp [h]
  · rw [if_neg e]
    simp only [List.getElem?_map]
    cases h : (List.range n)[j]? with
    | none => rfl
    | some x =>
      have : x = j := by
        rw [List.getElem?_range] at h
        · exact (Option.some.inj h).symm
        · exact Nat.lt_of_not_le fun q => by simp [List.getElem?_eq_none, q] at h
      subst this
      simp only [Option.map_some, hk _ (Ne.symm e)]
/-- the world: all cells of both sides hold what S says -/
def Wd (g : Gl) (S : St) (H : Heap) : Prop := va_P g.2.1 vwCl (wl g S) H
/-- the addresses are apart -/
def Apt (g : Gl) : Prop := ∀ p, p ∈ prs → ∀ q, q ∈ prs → g.2.2.1 p.1 p.2 = g.2.2.1 q.1 q.2 → p = q
theorem Apt.D {g : Gl} (h : Apt g) {A : Nat → Prop} (hA : ∀ p, p ∈ prs → A (g.2.2.1 p.1 p.2)) (S : St) : va_D A (wl g S) := by
  refine ⟨fun i j p q hi hj he => ?_, fun k q hk => ?_⟩
  · simp only [wl, List.getElem?_map] at hi hj
    cases h1 : prs[i]? with
    | none => rw [h1] at hi; cases hi
    | some a =>
      cases h2 : prs[j]? with
      | none => rw [h2] at hj; cases hj
      | some b =>
        rw [h1] at hi; rw [h2] at hj
        cases hi; cases hj
        have e : a = b := h a (List.mem_of_getElem? h1) b (List.mem_of_getElem? h2) he
        subst e
        exact prs_inj h1 h2
  · simp only [wl, List.getElem?_map] at hk
    cases h1 : prs[k]? with
    | none => rw [h1] at hk; cases hk
    | some a =>
      rw [h1] at hk
      cases hk
      exact hA a (List.mem_of_getElem? h1)
/-! ===== the tables' words ===== -/
def WT : List Cond := lw_tbl.filter goodWord
theorem wt_at {w : Cond} (i : Nat) (h : lw_tbl[i]? = some w) (hg : goodWord w = true) : w ∈ WT := List.mem_filter.mpr ⟨List.mem_of_getElem? h, hg⟩
def isNest : Cond → Bool
  | .fieldLinkNest .. => true
  | .methodLinkNest .. => true
  | .castable .. => true
  | .declares _ => true
  | _ => false
def NW : List Cond := lw_tbl.filter isNest
theorem nw_at {w : Cond} (i : Nat) (h : lw_tbl[i]? = some w) (hg : isNest w = true) : w ∈ NW := List.mem_filter.mpr ⟨List.mem_of_getElem? h, hg⟩
theorem nest_tab {w : Cond} (h : isNest w = true) : w.onTables = true := by
  cases w <;> first | rfl | (simp [isNest] at h)
theorem nest_warm {w : Cond} (h : isNest w = true) {s U : State} (hW : s.WarmedH U.vm) (hZ : va_Nw w s) : va_Nw w U := by
  cases w <;> first | exact va_Nw.warmF hW hZ | exact va_Nw.warmM hW hZ | exact va_Nw.warmC hW hZ | exact va_Nw.warmD hW hZ | (simp [isNest] at h)
theorem wt_good {ws : List Cond} (h : ∀ w ∈ ws, w ∈ WT) : GoodIn WT ws := fun w hw => ⟨h w hw, good_of_word (List.mem_filter.mp (h w hw)).2⟩
def strs : List (String × Nat × String) := [(RX3, 181, "an argument is out of range"), (RX3, 53, "there are 10 members"), (RX3, 177, "there is no such member"), (RX3, 184, "the member is not active"), (RX3, 73, "the member has no room for the client"), (RX3, 88, "the member does not go on"), (RX3, 186, "a failure is dealt with"), (RX3, 135, "there is no such lot"), (RX3, 142, "the member has bid for the lot"), (RX3, 145, "no failure is dealt with")]
def E_A : String := "java/lang/IllegalArgumentException"
def E_S : String := "java/lang/IllegalStateException"
def E_B : String := "java/lang/IndexOutOfBoundsException"
def ncs : List (String × String) := []
/-- what the machine's tables say, the same from call to call -/
def GV (g : Gl) (U : State) : Prop := (∀ w ∈ NW, va_Nw w U) ∧ va_K g.2.1 vwCl (tyl g) U ∧ (∀ q ∈ strs, ∃ a, vk_R q.1 q.2.1 q.2.2 a U) ∧ (∀ q ∈ ncs, va_Nc q.1 q.2 U) ∧ Apt g ∧ g.1.stackTraces = false
theorem GV.same {g : Gl} {u U : State} (h : u.vm = U.vm) (k : GV g u) : GV g U := by
  have hal : u.vm.Alike U.vm := by rw [h]; exact Vm.Alike.refl _
  exact ⟨fun w hw => va_Nw.same (nest_tab (List.mem_filter.mp hw).2) h (k.1 w hw), va_K.moved hal k.2.1, fun q hq => by obtain ⟨a, ha⟩ := k.2.2.1 q hq; exact ⟨a, vk_R.same h.symm ha⟩, fun q hq => va_Nc.moved hal (k.2.2.2.1 q hq), k.2.2.2.2⟩
theorem GV.warm {g : Gl} {s U : State} (hW : s.WarmedH U.vm) (k : GV g s) : GV g U :=
  ⟨fun w hw => nest_warm (List.mem_filter.mp hw).2 hW (k.1 w hw), va_K.moved hW.alike k.2.1, fun q hq => by obtain ⟨a, ha⟩ := k.2.2.1 q hq; exact ⟨a, vk_R.warm hW ha⟩, fun q hq => va_Nc.moved hW.alike (k.2.2.2.1 q hq), k.2.2.2.2⟩
/-- the cells that a call may write: the world's, and new ones -/
def Ag (g : Gl) (sz : Nat) : Nat → Prop := fun q => (∃ p, p ∈ prs ∧ q = g.2.2.1 p.1 p.2) ∨ sz ≤ q
def Zs (A : Nat → Prop) (U : State) (H : Heap) : Prop := vx_Zq Bundle.tN "UNASSIGNED_STACK" Bundle.steD A U H ∧ vx_Zq Bundle.tN "SUPPRESSED_SENTINEL" Bundle.listD A U H
def rgI (x : Int) : Prop := -2147483648 ≤ x ∧ x ≤ 2147483647
theorem toI {z : Int} (h : -2147483648 ≤ z ∧ z ≤ 2147483647) : (Int32.ofInt z).toInt = z := by
  have e : z.bmod (2 ^ 32) = z := Int.bmod_eq_of_le (by omega) (by omega)
  rw [Int32.toInt_ofInt]
  exact e
theorem toL {z : Int} (h : -9223372036854775808 ≤ z ∧ z ≤ 9223372036854775807) : (Int64.ofInt z).toInt = z := by
  have e : z.bmod (2 ^ 64) = z := Int.bmod_eq_of_le (by omega) (by omega)
  rw [Int64.toInt_ofInt]
  exact e
theorem ofI_le {a b : Int} (ha : -2147483648 ≤ a ∧ a ≤ 2147483647) (hb : -2147483648 ≤ b ∧ b ≤ 2147483647) : Int32.ofInt a ≤ Int32.ofInt b ↔ a ≤ b := by
  rw [Int32.le_iff_toInt_le, toI ha, toI hb]
theorem ofI_lt {a b : Int} (ha : -2147483648 ≤ a ∧ a ≤ 2147483647) (hb : -2147483648 ≤ b ∧ b ≤ 2147483647) : Int32.ofInt a < Int32.ofInt b ↔ a < b := by
  rw [Int32.lt_iff_toInt_lt, toI ha, toI hb]
theorem ofI_eq {a b : Int} (ha : -2147483648 ≤ a ∧ a ≤ 2147483647) (hb : -2147483648 ≤ b ∧ b ≤ 2147483647) : Int32.ofInt a = Int32.ofInt b ↔ a = b := by
  rw [← Int32.toInt_inj, toI ha, toI hb]
theorem ofI_clamp {j : Int} {n : Nat} (h : 0 ≤ j ∧ j < n) (hn : n ≤ 2147483647) : (Int32.ofInt j).toNatClampNeg = j.toNat ∧ vp_in (Int32.ofInt j) n := by
  have e : (Int32.ofInt j).toInt = j := toI (by omega)
  have e2 : (Int32.ofInt j).toNatClampNeg = j.toNat := by
    show (Int32.ofInt j).toInt.toNat = _
    rw [e]
  exact ⟨e2, by rw [vp_in_iff, e]; exact ⟨h.1, h.2⟩⟩
