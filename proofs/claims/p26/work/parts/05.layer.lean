/-! ===== the walking layer: K n pc L st S says that the machine, at pc with locals L and stack st over the world S, n throws accounted for, comes to its end ===== -/
theorem divI_ne {a b : Int} (h : (0 ≤ a ∧ a ≤ 2147483647) ∧ 0 < b ∧ b ≤ 2147483647) : ¬ Int32.ofInt b = 0 := by
  intro q
  have e : (Int32.ofInt b).toInt = b := toI (by omega)
  rw [q] at e
  have : (0 : Int32).toInt = 0 := rfl
  omega
theorem divI {a b : Int} (h : (0 ≤ a ∧ a ≤ 2147483647) ∧ 0 < b ∧ b ≤ 2147483647) : Int32.ofInt a / Int32.ofInt b = Int32.ofInt (a / b) := by
  have h1 : 0 ≤ a / b := Int.ediv_nonneg h.1.1 (by omega)
  have h2 : a / b ≤ a := Int.ediv_le_self b h.1.1
  rw [← Int32.toInt_inj, Int32.toInt_div, toI (by omega), toI (by omega), toI (by omega), Int.tdiv_eq_ediv_of_nonneg h.1.1]
  exact Int.bmod_eq_of_le (by omega) (by omega)
theorem divL_ne {a b : Int} (h : (0 ≤ a ∧ a ≤ 9223372036854775807) ∧ 0 < b ∧ b ≤ 9223372036854775807) : ¬ Int64.ofInt b = 0 := by
  intro q
  have e : (Int64.ofInt b).toInt = b := toL (by omega)
  rw [q] at e
  have : (0 : Int64).toInt = 0 := rfl
  omega
theorem divL {a b : Int} (h : (0 ≤ a ∧ a ≤ 9223372036854775807) ∧ 0 < b ∧ b ≤ 9223372036854775807) : Int64.ofInt a / Int64.ofInt b = Int64.ofInt (a / b) := by
  have h1 : 0 ≤ a / b := Int.ediv_nonneg h.1.1 (by omega)
  have h2 : a / b ≤ a := Int.ediv_le_self b h.1.1
  rw [← Int64.toInt_inj, Int64.toInt_div, toL (by omega), toL (by omega), toL (by omega), Int.tdiv_eq_ediv_of_nonneg h.1.1]
  exact Int.bmod_eq_of_le (by omega) (by omega)
theorem i2lI {a : Int} (h : -2147483648 ≤ a ∧ a ≤ 2147483647) : (Int32.ofInt a).toInt64 = Int64.ofInt a := by
  rw [← Int64.toInt_inj, Int32.toInt_toInt64, toI h, toL (by omega)]
theorem l2iI (a : Int) : (Int64.ofInt a).toInt32 = Int32.ofInt a := by
  rw [← Int32.toInt_inj, Int64.toInt_toInt32, Int64.toInt_ofInt, Int32.toInt_ofInt]
  exact Int.bmod_bmod_of_dvd (by decide)
theorem lcmpI {a b : Int} (h : (-9223372036854775808 ≤ a ∧ a ≤ 9223372036854775807) ∧ -9223372036854775808 ≤ b ∧ b ≤ 9223372036854775807) : lg_cmp (Int64.ofInt a) (Int64.ofInt b) = Int32.ofInt (if b < a then 1 else if a = b then 0 else -1) := by
  unfold lg_cmp
  have e1 : (Int64.ofInt a > Int64.ofInt b) ↔ b < a := by
    show Int64.ofInt b < Int64.ofInt a ↔ _
    rw [Int64.lt_iff_toInt_lt, toL h.1, toL h.2]
  have e2 : (Int64.ofInt a = Int64.ofInt b) ↔ a = b := by
    rw [← Int64.toInt_inj, toL h.1, toL h.2]
  by_cases h1 : b < a
  · rw [if_pos (e1.mpr h1), if_pos h1]; rfl
  · rw [if_neg (fun q => h1 (e1.mp q)), if_neg h1]
    by_cases h2 : a = b
    · rw [if_pos (e2.mpr h2), if_pos h2]; rfl
    · rw [if_neg (fun q => h2 (e2.mp q)), if_neg h2]; rfl
section KL
def Ctx (g : Gl) (own : String) (cc : ByteArray) (nL fr lo N : Nat) (p : Program) (R : Room) (s : State) (m : MethodId) (args : Array Value) (meth : Method) (c : Code) (A : Nat → Prop) (c0 s0 : Nat) : Prop :=
  p.tables.exec = Jvm.exec ∧ c.code = cc ∧ c.maxLocals = nL ∧ s.vm.findClass own = some m.cls ∧ (∀ w ∈ WT, w.before args s = true) ∧ GV g s ∧ (∀ q, q ∈ prs → A (g.2.2.1 q.1 q.2)) ∧ (∀ q, s.heap.size ≤ q → A q) ∧ Zs A s s.heap ∧ meth.locks = false ∧ fr ≤ R.frames ∧ lo ≤ R.locals ∧ c0 + N ≤ R.cells ∧ s0 + 6 * N ≤ R.slots
def lvs (g : Gl) (ls : Array Slot) (nL : Nat) (L : List (Option AV)) : Prop := ls.size = nL ∧ lv_wf ls ∧ ∀ (n : Nat) (v : AV), L[n]? = some (some v) → ls[n]? = some (.val (cv g v))
abbrev KT : Type := Nat → Nat → List (Option AV) → List AV → St → Prop
def Wk (g : Gl) (nL N : Nat) (p : Program) (e : Env) (R : Room) (s : State) (m : MethodId) (args : Array Value) (below : List Frame) (meth : Method) (c : Code) (A : Nat → Prop) (c0 s0 : Nat) (Q : State → Prop) : KT := fun n pc L st S =>
  n ≤ N → ∀ (H : Heap) (locs : List Loc) (ls : Array Slot), Wd g S H → va_S A s.heap H locs → lvs g ls nL L → W p g.1 e R s m args below meth c H locs (c0 + n) (s0 + 6 * n) Q (F0 m pc ls (st.map (cv g)))
def Mk (g : Gl) (own : String) (cc : ByteArray) (nL fr lo N : Nat) (K : KT) : Prop :=
  ∃ (p : Program) (e : Env) (R : Room) (s : State) (m : MethodId) (args : Array Value) (below : List Frame) (meth : Method) (c : Code) (A : Nat → Prop) (c0 s0 : Nat) (Q : State → Prop), Ctx g own cc nL fr lo N p R s m args meth c A c0 s0 ∧ ∀ n pc L st S, K n pc L st S ↔ Wk g nL N p e R s m args below meth c A c0 s0 Q n pc L st S
variable {g : Gl} {own : String} {cc : ByteArray} {nL fr lo N : Nat} {K : KT} {n pc : Nat} {L : List (Option AV)} {st : List AV} {S : St}
/-- a row that changes neither the world nor the count -/
theorem Mk.go (M : Mk g own cc nL fr lo N K) {pc' : Nat} {L' : List (Option AV)} {st' : List AV}
    (h : ∀ (p : Program) (e : Env) (R : Room) (s : State) (m : MethodId) (args : Array Value) (below : List Frame) (meth : Method) (c : Code) (A : Nat → Prop) (c0 s0 : Nat) (Q : State → Prop), Ctx g own cc nL fr lo N p R s m args meth c A c0 s0 → ∀ (H : Heap) (locs : List Loc) (ls : Array Slot), Wd g S H → va_S A s.heap H locs → lvs g ls nL L → n ≤ N →
      (∀ ls' : Array Slot, lvs g ls' nL L' → W p g.1 e R s m args below meth c H locs (c0 + n) (s0 + 6 * n) Q (F0 m pc' ls' (st'.map (cv g)))) → W p g.1 e R s m args below meth c H locs (c0 + n) (s0 + 6 * n) Q (F0 m pc ls (st.map (cv g))))
    (k : K n pc' L' st' S) : K n pc L st S := by
  obtain ⟨p, e, R, s, m, args, below, meth, c, A, c0, s0, Q, C, hK⟩ := M
  rw [hK] at k ⊢
  intro hn H locs ls hW hS hL
  exact h p e R s m args below meth c A c0 s0 Q C H locs ls hW hS hL hn (fun ls' hL' => k hn H locs ls' hW hS hL')
/-- a row of two ways -/
theorem Mk.two (M : Mk g own cc nL fr lo N K) {pc1 pc2 : Nat} {st' : List AV} {P1 P2 : Prop}
    (h : ∀ (p : Program) (e : Env) (R : Room) (s : State) (m : MethodId) (args : Array Value) (below : List Frame) (meth : Method) (c : Code) (A : Nat → Prop) (c0 s0 : Nat) (Q : State → Prop), Ctx g own cc nL fr lo N p R s m args meth c A c0 s0 → ∀ (H : Heap) (locs : List Loc) (ls : Array Slot),
      (P1 → W p g.1 e R s m args below meth c H locs (c0 + n) (s0 + 6 * n) Q (F0 m pc1 ls (st'.map (cv g)))) → (P2 → W p g.1 e R s m args below meth c H locs (c0 + n) (s0 + 6 * n) Q (F0 m pc2 ls (st'.map (cv g)))) → W p g.1 e R s m args below meth c H locs (c0 + n) (s0 + 6 * n) Q (F0 m pc ls (st.map (cv g))))
    (k1 : P1 → K n pc1 L st' S) (k2 : P2 → K n pc2 L st' S) : K n pc L st S := by
  obtain ⟨p, e, R, s, m, args, below, meth, c, A, c0, s0, Q, C, hK⟩ := M
  have k1' : P1 → Wk g nL N p e R s m args below meth c A c0 s0 Q n pc1 L st' S := fun q => (hK _ _ _ _ _).mp (k1 q)
  have k2' : P2 → Wk g nL N p e R s m args below meth c A c0 s0 Q n pc2 L st' S := fun q => (hK _ _ _ _ _).mp (k2 q)
  rw [hK]
  intro hn H locs ls hW hS hL
  exact h p e R s m args below meth c A c0 s0 Q C H locs ls (fun q => k1' q hn H locs ls hW hS hL) (fun q => k2' q hn H locs ls hW hS hL)
def stOK (L : List (Option AV)) (n : Nat) : Bool := match n with
  | 0 => true
  | j + 1 => match L[j]? with
    | some (some (.inr (.inl _))) => false
    | _ => true
theorem cv_cat (g : Gl) (v : AV) (h : (cv g v).category = 2) : ∃ x, v = vL x := by
  rcases v with x | x | q | a <;> first | exact ⟨x, rfl⟩ | (exfalso; revert h; simp [cv, Value.category])
def lvl (g : Gl) (L : List (Option AV)) : List (Nat × Value) := L.zipIdx.filterMap fun q => q.1.map fun v => (q.2, cv g v)
theorem lvl_mem {g : Gl} {L : List (Option AV)} {j : Nat} {x : Value} : (j, x) ∈ lvl g L ↔ ∃ v, L[j]? = some (some v) ∧ x = cv g v := by
  constructor
  · intro h
    obtain ⟨⟨o, i⟩, h1, h2⟩ := List.mem_filterMap.mp h
    have h3 := List.mk_mem_zipIdx_iff_getElem?.mp h1
    cases o with
    | none => cases h2
    | some v =>
      cases h2
      exact ⟨v, h3, rfl⟩
  · rintro ⟨v, h, rfl⟩
    exact List.mem_filterMap.mpr ⟨(some v, j), List.mk_mem_zipIdx_iff_getElem?.mpr h, rfl⟩
theorem lvs.lv {ls : Array Slot} (h : lvs g ls nL L) : lv_has ls nL (lvl g L) := ⟨h.1, h.2.1, fun q hq => by
  obtain ⟨j, x⟩ := q
  obtain ⟨v, h1, rfl⟩ := lvl_mem.mp hq
  exact h.2.2 j v h1⟩
theorem lvs.of1 {ls' : Array Slot} {i : Nat} {v : AV} (hs : stOK L i = true)
    (h : lv_has ls' nL ((i, cv g v) :: (lvl g L).filter (fun q => !(q.1 == i) && !(q.1 + 1 == i && q.2.category == 2)))) : lvs g ls' nL (L.set i (some v)) := by
  refine ⟨h.1, h.2.1, fun j w hw => ?_⟩
  by_cases e : i = j
  · subst e
    rw [List.getElem?_set] at hw
    by_cases hl : i < L.length
    · rw [if_pos rfl, if_pos hl] at hw
      cases hw
      exact h.2.2 (i, cv g v) List.mem_cons_self
    · rw [if_pos rfl, if_neg hl] at hw
      cases hw
  · rw [List.getElem?_set_ne e] at hw
    refine h.2.2 (j, cv g w) (List.mem_cons_of_mem _ (List.mem_filter.mpr ⟨lvl_mem.mpr ⟨w, hw, rfl⟩, ?_⟩))
    have h1 : (j == i) = false := by simp [Ne.symm e]
    have h2 : (j + 1 == i && (cv g w).category == 2) = false := by
      by_cases hj : j + 1 = i
      · by_cases hc : (cv g w).category = 2
        · obtain ⟨x, rfl⟩ := cv_cat g w hc
          subst hj
          exfalso
          simp [stOK, hw] at hs
        · simp [hc]
      · simp [hj]
    simp only [h1, h2, Bool.not_false, Bool.and_self]
theorem lvs.of2 {ls' : Array Slot} {i : Nat} {v : AV} (hs : stOK L i = true)
    (h : lv_has ls' nL ((i, cv g v) :: (lvl g L).filter (fun q => !(q.1 == i) && (!(q.1 == i + 1) && !(q.1 + 1 == i && q.2.category == 2))))) : lvs g ls' nL ((L.set i (some v)).set (i + 1) none) := by
  refine ⟨h.1, h.2.1, fun j w hw => ?_⟩
  by_cases e1 : i + 1 = j
  · subst e1
    rw [List.getElem?_set] at hw
    rw [if_pos rfl] at hw
    split at hw <;> cases hw
  · rw [List.getElem?_set_ne e1] at hw
    by_cases e : i = j
    · subst e
      rw [List.getElem?_set] at hw
      by_cases hl : i < L.length
      · rw [if_pos rfl, if_pos hl] at hw
        cases hw
        exact h.2.2 (i, cv g v) List.mem_cons_self
      · rw [if_pos rfl, if_neg hl] at hw
        cases hw
    · rw [List.getElem?_set_ne e] at hw
      refine h.2.2 (j, cv g w) (List.mem_cons_of_mem _ (List.mem_filter.mpr ⟨lvl_mem.mpr ⟨w, hw, rfl⟩, ?_⟩))
      have h1 : (j == i) = false := by simp [Ne.symm e]
      have h3 : (j == i + 1) = false := by simp [Ne.symm e1]
      have h2 : (j + 1 == i && (cv g w).category == 2) = false := by
        by_cases hj : j + 1 = i
        · by_cases hc : (cv g w).category = 2
          · obtain ⟨x, rfl⟩ := cv_cat g w hc
            subst hj
            exfalso
            simp [stOK, hw] at hs
          · simp [hc]
        · simp [hj]
      simp only [h1, h2, h3, Bool.not_false, Bool.and_self]

theorem r_iconst (M : Mk g own cc nL fr lo N K) {z : Int} (d : decode cc pc = .ok (.iconst z, 1)) (kk : K n (pc + 1) L (vI z :: st) S) : K n pc L (st) S :=
  M.go (fun p e R s m args below meth c A c0 s0 Q C H locs ls hW hS hL hn k => lv_iconst C.1 C.2.1 d rfl (k ls hL)) kk
theorem r_bipush (M : Mk g own cc nL fr lo N K) {z : Int} (d : decode cc pc = .ok (.bipush z, 2)) (h : (Int8.ofInt z).toInt32 = Int32.ofInt z) (kk : K n (pc + 2) L (vI z :: st) S) : K n pc L (st) S :=
  M.go (fun p e R s m args below meth c A c0 s0 Q C H locs ls hW hS hL hn k => lv_bipush C.1 C.2.1 d h (k ls hL)) kk
theorem r_sipush (M : Mk g own cc nL fr lo N K) {z : Int} (d : decode cc pc = .ok (.sipush z, 3)) (h : (Int16.ofInt z).toInt32 = Int32.ofInt z) (kk : K n (pc + 3) L (vI z :: st) S) : K n pc L (st) S :=
  M.go (fun p e R s m args below meth c A c0 s0 Q C H locs ls hW hS hL hn k => lv_sipush C.1 C.2.1 d h (k ls hL)) kk
theorem r_ldc (M : Mk g own cc nL fr lo N K) {ix : Nat} {v : Int32} (d : decode cc pc = .ok (.ldc ix, 2)) (hw : Jvm.Cond.constant own ix v ∈ WT) {z : Int} (h : v = Int32.ofInt z) (kk : K n (pc + 2) L (vI z :: st) S) : K n pc L (st) S :=
  M.go (fun p e R s m args below meth c A c0 s0 Q C H locs ls hW hS hL hn k => lv_ldc C.1 C.2.1 C.2.2.2.1 (C.2.2.2.2.1 _ hw) d (by subst h; exact k ls hL)) kk
theorem r_lconst0 (M : Mk g own cc nL fr lo N K) (d : decode cc pc = .ok (.lconst 0, 1)) (kk : K n (pc + 1) L (vL 0 :: st) S) : K n pc L (st) S :=
  M.go (fun p e R s m args below meth c A c0 s0 Q C H locs ls hW hS hL hn k => lv_lconst C.1 C.2.1 d rfl (k ls hL)) kk
theorem r_lconst1 (M : Mk g own cc nL fr lo N K) (d : decode cc pc = .ok (.lconst 1, 1)) (kk : K n (pc + 1) L (vL 1 :: st) S) : K n pc L (st) S :=
  M.go (fun p e R s m args below meth c A c0 s0 Q C H locs ls hW hS hL hn k => lv_lconst C.1 C.2.1 d rfl (k ls hL)) kk
theorem r_iload_n (M : Mk g own cc nL fr lo N K) {j : Fin 4} {x : Int} (d : decode cc pc = .ok (.iload_n j, 1)) (hl : L[(j : Nat)]? = some (some (vI x))) (kk : K n (pc + 1) L (vI x :: st) S) : K n pc L (st) S :=
  M.go (fun p e R s m args below meth c A c0 s0 Q C H locs ls hW hS hL hn k => lv_iload_n C.1 C.2.1 d rfl (hL.2.2 _ _ hl) (k ls hL)) kk
theorem r_iload (M : Mk g own cc nL fr lo N K) {j : Nat} {x : Int} (d : decode cc pc = .ok (.iload j, 2)) (hl : L[j]? = some (some (vI x))) (kk : K n (pc + 2) L (vI x :: st) S) : K n pc L (st) S :=
  M.go (fun p e R s m args below meth c A c0 s0 Q C H locs ls hW hS hL hn k => lv_iload C.1 C.2.1 d (hL.2.2 _ _ hl) (k ls hL)) kk
theorem r_lload_n (M : Mk g own cc nL fr lo N K) {j : Fin 4} {x : Int} (d : decode cc pc = .ok (.lload_n j, 1)) (hl : L[(j : Nat)]? = some (some (vL x))) (kk : K n (pc + 1) L (vL x :: st) S) : K n pc L (st) S :=
  M.go (fun p e R s m args below meth c A c0 s0 Q C H locs ls hW hS hL hn k => lv_lload_n C.1 C.2.1 d rfl (hL.2.2 _ _ hl) (k ls hL)) kk
theorem r_lload (M : Mk g own cc nL fr lo N K) {j : Nat} {x : Int} (d : decode cc pc = .ok (.lload j, 2)) (hl : L[j]? = some (some (vL x))) (kk : K n (pc + 2) L (vL x :: st) S) : K n pc L (st) S :=
  M.go (fun p e R s m args below meth c A c0 s0 Q C H locs ls hW hS hL hn k => lv_lload C.1 C.2.1 d (hL.2.2 _ _ hl) (k ls hL)) kk
theorem r_aload_n (M : Mk g own cc nL fr lo N K) {j : Fin 4} {t i : Nat} (d : decode cc pc = .ok (.aload_n j, 1)) (hl : L[(j : Nat)]? = some (some (vR t i))) (kk : K n (pc + 1) L (vR t i :: st) S) : K n pc L (st) S :=
  M.go (fun p e R s m args below meth c A c0 s0 Q C H locs ls hW hS hL hn k => lv_aload_n C.1 C.2.1 d rfl (hL.2.2 _ _ hl) (k ls hL)) kk
theorem r_aload (M : Mk g own cc nL fr lo N K) {j : Nat} {t i : Nat} (d : decode cc pc = .ok (.aload j, 2)) (hl : L[j]? = some (some (vR t i))) (kk : K n (pc + 2) L (vR t i :: st) S) : K n pc L (st) S :=
  M.go (fun p e R s m args below meth c A c0 s0 Q C H locs ls hW hS hL hn k => lv_aload C.1 C.2.1 d (hL.2.2 _ _ hl) (k ls hL)) kk
theorem r_istore_nG (M : Mk g own cc nL fr lo N K) {j : Fin 4} {x : Int} {L1 : List (Option AV)} (d : decode cc pc = .ok (.istore_n j, 1)) (hj : (j : Nat) < nL) (hs : stOK L j = true) (eL : L.set j (some (vI x)) = L1) (kk : K n (pc + 1) L1 (st) S) : K n pc L (vI x :: st) S :=
  M.go (fun p e R s m args below meth c A c0 s0 Q C H locs ls hW hS hL hn k => lv_istore_n C.1 C.2.1 d rfl hL.lv hj rfl (fun ls' h => k ls' (by subst eL; exact lvs.of1 (v := vI x) hs h))) kk
theorem r_istoreG (M : Mk g own cc nL fr lo N K) {j : Nat} {x : Int} {L1 : List (Option AV)} (d : decode cc pc = .ok (.istore j, 2)) (hj : j < nL) (hs : stOK L j = true) (eL : L.set j (some (vI x)) = L1) (kk : K n (pc + 2) L1 (st) S) : K n pc L (vI x :: st) S :=
  M.go (fun p e R s m args below meth c A c0 s0 Q C H locs ls hW hS hL hn k => lv_istore C.1 C.2.1 d hL.lv hj rfl (fun ls' h => k ls' (by subst eL; exact lvs.of1 (v := vI x) hs h))) kk
theorem r_astore_nG (M : Mk g own cc nL fr lo N K) {j : Fin 4} {t i : Nat} {L1 : List (Option AV)} (d : decode cc pc = .ok (.astore_n j, 1)) (hj : (j : Nat) < nL) (hs : stOK L j = true) (eL : L.set j (some (vR t i)) = L1) (kk : K n (pc + 1) L1 (st) S) : K n pc L (vR t i :: st) S :=
  M.go (fun p e R s m args below meth c A c0 s0 Q C H locs ls hW hS hL hn k => lv_astore_n C.1 C.2.1 d rfl hL.lv hj rfl (fun ls' h => k ls' (by subst eL; exact lvs.of1 (v := vR t i) hs h))) kk
theorem r_astoreG (M : Mk g own cc nL fr lo N K) {j : Nat} {t i : Nat} {L1 : List (Option AV)} (d : decode cc pc = .ok (.astore j, 2)) (hj : j < nL) (hs : stOK L j = true) (eL : L.set j (some (vR t i)) = L1) (kk : K n (pc + 2) L1 (st) S) : K n pc L (vR t i :: st) S :=
  M.go (fun p e R s m args below meth c A c0 s0 Q C H locs ls hW hS hL hn k => lv_astore C.1 C.2.1 d hL.lv hj rfl (fun ls' h => k ls' (by subst eL; exact lvs.of1 (v := vR t i) hs h))) kk
theorem r_xstore_nG (M : Mk g own cc nL fr lo N K) {j : Fin 4} {x : Nat} {L1 : List (Option AV)} (d : decode cc pc = .ok (.astore_n j, 1)) (hj : (j : Nat) < nL) (hs : stOK L j = true) (eL : L.set j (some (vX x)) = L1) (kk : K n (pc + 1) L1 (st) S) : K n pc L (vX x :: st) S :=
  M.go (fun p e R s m args below meth c A c0 s0 Q C H locs ls hW hS hL hn k => lv_astore_n C.1 C.2.1 d rfl hL.lv hj rfl (fun ls' h => k ls' (by subst eL; exact lvs.of1 (v := vX x) hs h))) kk
theorem r_xstoreG (M : Mk g own cc nL fr lo N K) {j : Nat} {x : Nat} {L1 : List (Option AV)} (d : decode cc pc = .ok (.astore j, 2)) (hj : j < nL) (hs : stOK L j = true) (eL : L.set j (some (vX x)) = L1) (kk : K n (pc + 2) L1 (st) S) : K n pc L (vX x :: st) S :=
  M.go (fun p e R s m args below meth c A c0 s0 Q C H locs ls hW hS hL hn k => lv_astore C.1 C.2.1 d hL.lv hj rfl (fun ls' h => k ls' (by subst eL; exact lvs.of1 (v := vX x) hs h))) kk
theorem r_lstore_nG (M : Mk g own cc nL fr lo N K) {j : Fin 4} {x : Int} {L1 : List (Option AV)} (d : decode cc pc = .ok (.lstore_n j, 1)) (hj : (j : Nat) + 1 < nL) (hs : stOK L j = true) (eL : (L.set j (some (vL x))).set (j + 1) none = L1) (kk : K n (pc + 1) L1 (st) S) : K n pc L (vL x :: st) S :=
  M.go (fun p e R s m args below meth c A c0 s0 Q C H locs ls hW hS hL hn k => lv_lstore_n C.1 C.2.1 d rfl hL.lv hj rfl (fun ls' h => k ls' (by subst eL; exact lvs.of2 (v := vL x) hs h))) kk
theorem r_lstoreG (M : Mk g own cc nL fr lo N K) {j : Nat} {x : Int} {L1 : List (Option AV)} (d : decode cc pc = .ok (.lstore j, 2)) (hj : j + 1 < nL) (hs : stOK L j = true) (eL : (L.set j (some (vL x))).set (j + 1) none = L1) (kk : K n (pc + 2) L1 (st) S) : K n pc L (vL x :: st) S :=
  M.go (fun p e R s m args below meth c A c0 s0 Q C H locs ls hW hS hL hn k => lv_lstore C.1 C.2.1 d hL.lv hj rfl (fun ls' h => k ls' (by subst eL; exact lvs.of2 (v := vL x) hs h))) kk
theorem r_iincG (M : Mk g own cc nL fr lo N K) {j : Nat} {z x y : Int} {L1 : List (Option AV)} (d : decode cc pc = .ok (.iinc j z, 3)) (hl : L[j]? = some (some (vI x))) (hy : x + z = y) (hj : j < nL) (hs : stOK L j = true) (eL : L.set j (some (vI y)) = L1) (kk : K n (pc + 3) L1 (st) S) : K n pc L (st) S :=
  M.go (fun p e R s m args below meth c A c0 s0 Q C H locs ls hW hS hL hn k => (by
    obtain ⟨q, hq⟩ := List.getElem?_of_mem (lvl_mem.mpr ⟨_, hl, rfl⟩ : (j, cv g (vI x)) ∈ lvl g L)
    exact lv_iinc (v := Int32.ofInt y) C.1 C.2.1 d hL.lv hq (by rw [← hy, Int32.ofInt_add]) hj rfl (fun ls' h => k ls' (by subst eL; exact lvs.of1 (v := vI y) hs h)))) kk
theorem r_iadd (M : Mk g own cc nL fr lo N K) {a b : Int} (d : decode cc pc = .ok (.iadd, 1)) (kk : K n (pc + 1) L (vI (a + b) :: st) S) : K n pc L (vI b :: vI a :: st) S :=
  M.go (fun p e R s m args below meth c A c0 s0 Q C H locs ls hW hS hL hn k => lv_iadd C.1 C.2.1 d (by have q := k ls hL; simp only [List.map_cons, cv, Int32.ofInt_add] at q; exact q)) kk
theorem r_isub (M : Mk g own cc nL fr lo N K) {a b : Int} (d : decode cc pc = .ok (.isub, 1)) (kk : K n (pc + 1) L (vI (a - b) :: st) S) : K n pc L (vI b :: vI a :: st) S :=
  M.go (fun p e R s m args below meth c A c0 s0 Q C H locs ls hW hS hL hn k => lv_isub C.1 C.2.1 d (by have q := k ls hL; simp only [List.map_cons, cv, Int32.ofInt_sub] at q; exact q)) kk
theorem r_imul (M : Mk g own cc nL fr lo N K) {a b : Int} (d : decode cc pc = .ok (.imul, 1)) (kk : K n (pc + 1) L (vI (a * b) :: st) S) : K n pc L (vI b :: vI a :: st) S :=
  M.go (fun p e R s m args below meth c A c0 s0 Q C H locs ls hW hS hL hn k => lv_imul C.1 C.2.1 d (by have q := k ls hL; simp only [List.map_cons, cv, Int32.ofInt_mul] at q; exact q)) kk
theorem r_ladd (M : Mk g own cc nL fr lo N K) {a b : Int} (d : decode cc pc = .ok (.ladd, 1)) (kk : K n (pc + 1) L (vL (a + b) :: st) S) : K n pc L (vL b :: vL a :: st) S :=
  M.go (fun p e R s m args below meth c A c0 s0 Q C H locs ls hW hS hL hn k => lv_ladd C.1 C.2.1 d (by have q := k ls hL; simp only [List.map_cons, cv, Int64.ofInt_add] at q; exact q)) kk
theorem r_lsub (M : Mk g own cc nL fr lo N K) {a b : Int} (d : decode cc pc = .ok (.lsub, 1)) (kk : K n (pc + 1) L (vL (a - b) :: st) S) : K n pc L (vL b :: vL a :: st) S :=
  M.go (fun p e R s m args below meth c A c0 s0 Q C H locs ls hW hS hL hn k => lv_lsub C.1 C.2.1 d (by have q := k ls hL; simp only [List.map_cons, cv, Int64.ofInt_sub] at q; exact q)) kk
theorem r_lmul (M : Mk g own cc nL fr lo N K) {a b : Int} (d : decode cc pc = .ok (.lmul, 1)) (kk : K n (pc + 1) L (vL (a * b) :: st) S) : K n pc L (vL b :: vL a :: st) S :=
  M.go (fun p e R s m args below meth c A c0 s0 Q C H locs ls hW hS hL hn k => lv_lmul C.1 C.2.1 d (by have q := k ls hL; simp only [List.map_cons, cv, Int64.ofInt_mul] at q; exact q)) kk
theorem r_ineg (M : Mk g own cc nL fr lo N K) {a : Int} (d : decode cc pc = .ok (.ineg, 1)) (kk : K n (pc + 1) L (vI (-a) :: st) S) : K n pc L (vI a :: st) S :=
  M.go (fun p e R s m args below meth c A c0 s0 Q C H locs ls hW hS hL hn k => lv_ineg C.1 C.2.1 d (by have q := k ls hL; simp only [List.map_cons, cv, Int32.ofInt_neg] at q; exact q)) kk
theorem r_idiv (M : Mk g own cc nL fr lo N K) {a b : Int} (d : decode cc pc = .ok (.idiv, 1)) (h : (0 ≤ a ∧ a ≤ 2147483647) ∧ 0 < b ∧ b ≤ 2147483647) (kk : K n (pc + 1) L (vI (a / b) :: st) S) : K n pc L (vI b :: vI a :: st) S :=
  M.go (fun p e R s m args below meth c A c0 s0 Q C H locs ls hW hS hL hn k => lv_idiv C.1 C.2.1 d (divI_ne h) (by rw [divI h]; exact k ls hL)) kk
theorem r_ldiv (M : Mk g own cc nL fr lo N K) {a b : Int} (d : decode cc pc = .ok (.ldiv, 1)) (h : (0 ≤ a ∧ a ≤ 9223372036854775807) ∧ 0 < b ∧ b ≤ 9223372036854775807) (kk : K n (pc + 1) L (vL (a / b) :: st) S) : K n pc L (vL b :: vL a :: st) S :=
  M.go (fun p e R s m args below meth c A c0 s0 Q C H locs ls hW hS hL hn k => lv_ldiv C.1 C.2.1 d (divL_ne h) (by rw [divL h]; exact k ls hL)) kk
theorem r_i2l (M : Mk g own cc nL fr lo N K) {a : Int} (d : decode cc pc = .ok (.i2l, 1)) (h : -2147483648 ≤ a ∧ a ≤ 2147483647) (kk : K n (pc + 1) L (vL a :: st) S) : K n pc L (vI a :: st) S :=
  M.go (fun p e R s m args below meth c A c0 s0 Q C H locs ls hW hS hL hn k => lv_i2l C.1 C.2.1 d (i2lI h) (k ls hL)) kk
theorem r_l2i (M : Mk g own cc nL fr lo N K) {a : Int} (d : decode cc pc = .ok (.l2i, 1)) (kk : K n (pc + 1) L (vI a :: st) S) : K n pc L (vL a :: st) S :=
  M.go (fun p e R s m args below meth c A c0 s0 Q C H locs ls hW hS hL hn k => lv_l2i C.1 C.2.1 d (l2iI a) (k ls hL)) kk
theorem r_lcmp (M : Mk g own cc nL fr lo N K) {a b : Int} (d : decode cc pc = .ok (.lcmp, 1)) (h : (-9223372036854775808 ≤ a ∧ a ≤ 9223372036854775807) ∧ -9223372036854775808 ≤ b ∧ b ≤ 9223372036854775807) (kk : K n (pc + 1) L (vI (if b < a then 1 else if a = b then 0 else -1) :: st) S) : K n pc L (vL b :: vL a :: st) S :=
  M.go (fun p e R s m args below meth c A c0 s0 Q C H locs ls hW hS hL hn k => W.lcmp C.1 C.2.1 d (by rw [lcmpI h]; exact k ls hL)) kk
theorem r_dupR (M : Mk g own cc nL fr lo N K) {t i : Nat} (d : decode cc pc = .ok (.dup, 1)) (kk : K n (pc + 1) L (vR t i :: vR t i :: st) S) : K n pc L (vR t i :: st) S :=
  M.go (fun p e R s m args below meth c A c0 s0 Q C H locs ls hW hS hL hn k => lv_dup C.1 C.2.1 d rfl (k ls hL)) kk
theorem r_dupI (M : Mk g own cc nL fr lo N K) {a : Int} (d : decode cc pc = .ok (.dup, 1)) (kk : K n (pc + 1) L (vI a :: vI a :: st) S) : K n pc L (vI a :: st) S :=
  M.go (fun p e R s m args below meth c A c0 s0 Q C H locs ls hW hS hL hn k => lv_dup C.1 C.2.1 d rfl (k ls hL)) kk
theorem r_pop (M : Mk g own cc nL fr lo N K) {a : Int} (d : decode cc pc = .ok (.pop, 1)) (kk : K n (pc + 1) L (st) S) : K n pc L (vI a :: st) S :=
  M.go (fun p e R s m args below meth c A c0 s0 Q C H locs ls hW hS hL hn k => lv_pop C.1 C.2.1 d rfl (k ls hL)) kk
theorem r_dup2 (M : Mk g own cc nL fr lo N K) {a : Int} {t i : Nat} (d : decode cc pc = .ok (.dup2, 1)) (kk : K n (pc + 1) L (vI a :: vR t i :: vI a :: vR t i :: st) S) : K n pc L (vI a :: vR t i :: st) S :=
  M.go (fun p e R s m args below meth c A c0 s0 Q C H locs ls hW hS hL hn k => lv_dup2_11 C.1 C.2.1 d rfl rfl (k ls hL)) kk
theorem r_goto (M : Mk g own cc nL fr lo N K) {off : Int} {tgt : Nat} (d : decode cc pc = .ok (.goto off, 3)) (ht : (pc : Int) + off = (tgt : Int)) (kk : K n (tgt) L (st) S) : K n pc L (st) S :=
  M.go (fun p e R s m args below meth c A c0 s0 Q C H locs ls hW hS hL hn k => lv_goto C.1 C.2.1 d ht (k ls hL)) kk
theorem r_icmp_ge (M : Mk g own cc nL fr lo N K) {a b off : Int} {tgt : Nat} (d : decode cc pc = .ok (.if_icmp .ge off, 3)) (ht : (pc : Int) + off = (tgt : Int)) (h : (-2147483648 ≤ a ∧ a ≤ 2147483647) ∧ -2147483648 ≤ b ∧ b ≤ 2147483647) (k1 : b ≤ a → K n tgt L st S) (k2 : a < b → K n (pc + 3) L st S) : K n pc L (vI b :: vI a :: st) S :=
  M.two (fun p e R s m args below meth c A c0 s0 Q C H locs ls k1 k2 => lv_icmp_ge C.1 C.2.1 d ht (fun q => k1 ((ofI_le h.2 h.1).mp q)) (fun q => k2 (Int.not_le.mp (fun w => q ((ofI_le h.2 h.1).mpr w))))) k1 k2
theorem r_icmp_lt (M : Mk g own cc nL fr lo N K) {a b off : Int} {tgt : Nat} (d : decode cc pc = .ok (.if_icmp .lt off, 3)) (ht : (pc : Int) + off = (tgt : Int)) (h : (-2147483648 ≤ a ∧ a ≤ 2147483647) ∧ -2147483648 ≤ b ∧ b ≤ 2147483647) (k1 : a < b → K n tgt L st S) (k2 : b ≤ a → K n (pc + 3) L st S) : K n pc L (vI b :: vI a :: st) S :=
  M.two (fun p e R s m args below meth c A c0 s0 Q C H locs ls k1 k2 => lv_icmp_lt C.1 C.2.1 d ht (fun q => k1 ((ofI_lt h.1 h.2).mp q)) (fun q => k2 (Int.not_lt.mp (fun w => q ((ofI_lt h.1 h.2).mpr w))))) k1 k2
theorem r_icmp_le (M : Mk g own cc nL fr lo N K) {a b off : Int} {tgt : Nat} (d : decode cc pc = .ok (.if_icmp .le off, 3)) (ht : (pc : Int) + off = (tgt : Int)) (h : (-2147483648 ≤ a ∧ a ≤ 2147483647) ∧ -2147483648 ≤ b ∧ b ≤ 2147483647) (k1 : a ≤ b → K n tgt L st S) (k2 : b < a → K n (pc + 3) L st S) : K n pc L (vI b :: vI a :: st) S :=
  M.two (fun p e R s m args below meth c A c0 s0 Q C H locs ls k1 k2 => lv_icmp_le C.1 C.2.1 d ht (fun q => k1 ((ofI_le h.1 h.2).mp q)) (fun q => k2 (Int.not_le.mp (fun w => q ((ofI_le h.1 h.2).mpr w))))) k1 k2
theorem r_icmp_gt (M : Mk g own cc nL fr lo N K) {a b off : Int} {tgt : Nat} (d : decode cc pc = .ok (.if_icmp .gt off, 3)) (ht : (pc : Int) + off = (tgt : Int)) (h : (-2147483648 ≤ a ∧ a ≤ 2147483647) ∧ -2147483648 ≤ b ∧ b ≤ 2147483647) (k1 : b < a → K n tgt L st S) (k2 : a ≤ b → K n (pc + 3) L st S) : K n pc L (vI b :: vI a :: st) S :=
  M.two (fun p e R s m args below meth c A c0 s0 Q C H locs ls k1 k2 => lv_icmp_gt C.1 C.2.1 d ht (fun q => k1 ((ofI_lt h.2 h.1).mp q)) (fun q => k2 (Int.not_lt.mp (fun w => q ((ofI_lt h.2 h.1).mpr w))))) k1 k2
theorem r_icmp_eq (M : Mk g own cc nL fr lo N K) {a b off : Int} {tgt : Nat} (d : decode cc pc = .ok (.if_icmp .eq off, 3)) (ht : (pc : Int) + off = (tgt : Int)) (h : (-2147483648 ≤ a ∧ a ≤ 2147483647) ∧ -2147483648 ≤ b ∧ b ≤ 2147483647) (k1 : a = b → K n tgt L st S) (k2 : a ≠ b → K n (pc + 3) L st S) : K n pc L (vI b :: vI a :: st) S :=
  M.two (fun p e R s m args below meth c A c0 s0 Q C H locs ls k1 k2 => lv_icmp_eq C.1 C.2.1 d ht (fun q => k1 ((ofI_eq h.1 h.2).mp q)) (fun q => k2 (fun w => q ((ofI_eq h.1 h.2).mpr w)))) k1 k2
theorem r_icmp_ne (M : Mk g own cc nL fr lo N K) {a b off : Int} {tgt : Nat} (d : decode cc pc = .ok (.if_icmp .ne off, 3)) (ht : (pc : Int) + off = (tgt : Int)) (h : (-2147483648 ≤ a ∧ a ≤ 2147483647) ∧ -2147483648 ≤ b ∧ b ≤ 2147483647) (k1 : a ≠ b → K n tgt L st S) (k2 : a = b → K n (pc + 3) L st S) : K n pc L (vI b :: vI a :: st) S :=
  M.two (fun p e R s m args below meth c A c0 s0 Q C H locs ls k1 k2 => lv_icmp_ne C.1 C.2.1 d ht (fun q => k1 (fun w => q ((ofI_eq h.1 h.2).mpr w))) (fun q => k2 (Classical.byContradiction fun w => w ((ofI_eq h.1 h.2).mp (by first | exact q | exact Classical.not_not.mp q))))) k1 k2
theorem r_if_ge (M : Mk g own cc nL fr lo N K) {a off : Int} {tgt : Nat} (d : decode cc pc = .ok (.ifCond .ge off, 3)) (ht : (pc : Int) + off = (tgt : Int)) (h : -2147483648 ≤ a ∧ a ≤ 2147483647) (k1 : 0 ≤ a → K n tgt L st S) (k2 : a < 0 → K n (pc + 3) L st S) : K n pc L (vI a :: st) S :=
  M.two (fun p e R s m args below meth c A c0 s0 Q C H locs ls k1 k2 => lv_if_ge C.1 C.2.1 d ht (fun q => k1 ((ofI_le (⟨by omega, by omega⟩ : (-2147483648 : Int) ≤ 0 ∧ (0 : Int) ≤ 2147483647) h).mp q)) (fun q => k2 (Int.not_le.mp (fun w => q ((ofI_le (⟨by omega, by omega⟩ : (-2147483648 : Int) ≤ 0 ∧ (0 : Int) ≤ 2147483647) h).mpr w))))) k1 k2
theorem r_if_lt (M : Mk g own cc nL fr lo N K) {a off : Int} {tgt : Nat} (d : decode cc pc = .ok (.ifCond .lt off, 3)) (ht : (pc : Int) + off = (tgt : Int)) (h : -2147483648 ≤ a ∧ a ≤ 2147483647) (k1 : a < 0 → K n tgt L st S) (k2 : 0 ≤ a → K n (pc + 3) L st S) : K n pc L (vI a :: st) S :=
  M.two (fun p e R s m args below meth c A c0 s0 Q C H locs ls k1 k2 => lv_if_lt C.1 C.2.1 d ht (fun q => k1 ((ofI_lt h (⟨by omega, by omega⟩ : (-2147483648 : Int) ≤ 0 ∧ (0 : Int) ≤ 2147483647)).mp q)) (fun q => k2 (Int.not_lt.mp (fun w => q ((ofI_lt h (⟨by omega, by omega⟩ : (-2147483648 : Int) ≤ 0 ∧ (0 : Int) ≤ 2147483647)).mpr w))))) k1 k2
theorem r_if_le (M : Mk g own cc nL fr lo N K) {a off : Int} {tgt : Nat} (d : decode cc pc = .ok (.ifCond .le off, 3)) (ht : (pc : Int) + off = (tgt : Int)) (h : -2147483648 ≤ a ∧ a ≤ 2147483647) (k1 : a ≤ 0 → K n tgt L st S) (k2 : 0 < a → K n (pc + 3) L st S) : K n pc L (vI a :: st) S :=
  M.two (fun p e R s m args below meth c A c0 s0 Q C H locs ls k1 k2 => lv_if_le C.1 C.2.1 d ht (fun q => k1 ((ofI_le h (⟨by omega, by omega⟩ : (-2147483648 : Int) ≤ 0 ∧ (0 : Int) ≤ 2147483647)).mp q)) (fun q => k2 (Int.not_le.mp (fun w => q ((ofI_le h (⟨by omega, by omega⟩ : (-2147483648 : Int) ≤ 0 ∧ (0 : Int) ≤ 2147483647)).mpr w))))) k1 k2
theorem r_if_gt (M : Mk g own cc nL fr lo N K) {a off : Int} {tgt : Nat} (d : decode cc pc = .ok (.ifCond .gt off, 3)) (ht : (pc : Int) + off = (tgt : Int)) (h : -2147483648 ≤ a ∧ a ≤ 2147483647) (k1 : 0 < a → K n tgt L st S) (k2 : a ≤ 0 → K n (pc + 3) L st S) : K n pc L (vI a :: st) S :=
  M.two (fun p e R s m args below meth c A c0 s0 Q C H locs ls k1 k2 => lv_if_gt C.1 C.2.1 d ht (fun q => k1 ((ofI_lt (⟨by omega, by omega⟩ : (-2147483648 : Int) ≤ 0 ∧ (0 : Int) ≤ 2147483647) h).mp q)) (fun q => k2 (Int.not_lt.mp (fun w => q ((ofI_lt (⟨by omega, by omega⟩ : (-2147483648 : Int) ≤ 0 ∧ (0 : Int) ≤ 2147483647) h).mpr w))))) k1 k2
theorem r_if_eq (M : Mk g own cc nL fr lo N K) {a off : Int} {tgt : Nat} (d : decode cc pc = .ok (.ifCond .eq off, 3)) (ht : (pc : Int) + off = (tgt : Int)) (h : -2147483648 ≤ a ∧ a ≤ 2147483647) (k1 : a = 0 → K n tgt L st S) (k2 : a ≠ 0 → K n (pc + 3) L st S) : K n pc L (vI a :: st) S :=
  M.two (fun p e R s m args below meth c A c0 s0 Q C H locs ls k1 k2 => lv_if_eq C.1 C.2.1 d ht (fun q => k1 ((ofI_eq h (⟨by omega, by omega⟩ : (-2147483648 : Int) ≤ 0 ∧ (0 : Int) ≤ 2147483647)).mp q)) (fun q => k2 (fun w => q ((ofI_eq h (⟨by omega, by omega⟩ : (-2147483648 : Int) ≤ 0 ∧ (0 : Int) ≤ 2147483647)).mpr w)))) k1 k2
theorem r_if_ne (M : Mk g own cc nL fr lo N K) {a off : Int} {tgt : Nat} (d : decode cc pc = .ok (.ifCond .ne off, 3)) (ht : (pc : Int) + off = (tgt : Int)) (h : -2147483648 ≤ a ∧ a ≤ 2147483647) (k1 : a ≠ 0 → K n tgt L st S) (k2 : a = 0 → K n (pc + 3) L st S) : K n pc L (vI a :: st) S :=
  M.two (fun p e R s m args below meth c A c0 s0 Q C H locs ls k1 k2 => lv_if_ne C.1 C.2.1 d ht (fun q => k1 (fun w => q ((ofI_eq h (⟨by omega, by omega⟩ : (-2147483648 : Int) ≤ 0 ∧ (0 : Int) ≤ 2147483647)).mpr w))) (fun q => k2 ((ofI_eq h (⟨by omega, by omega⟩ : (-2147483648 : Int) ≤ 0 ∧ (0 : Int) ≤ 2147483647)).mp q))) k1 k2
theorem r_istore_0 (M : Mk g own cc nL fr lo N K) {w : Option AV} {T : List (Option AV)} {x : Int} (d : decode cc pc = .ok (.istore_n 0, 1)) (hj : 0 < nL) (hs : stOK (w :: T) 0 = true) (kk : K n (pc + 1) (some (vI x) :: T) st S) : K n pc (w :: T) (vI x :: st) S := r_istore_nG M d hj hs rfl kk
theorem r_astore_0 (M : Mk g own cc nL fr lo N K) {w : Option AV} {T : List (Option AV)} {t i : Nat} (d : decode cc pc = .ok (.astore_n 0, 1)) (hj : 0 < nL) (hs : stOK (w :: T) 0 = true) (kk : K n (pc + 1) (some (vR t i) :: T) st S) : K n pc (w :: T) (vR t i :: st) S := r_astore_nG M d hj hs rfl kk
theorem r_xstore_0 (M : Mk g own cc nL fr lo N K) {w : Option AV} {T : List (Option AV)} {x : Nat} (d : decode cc pc = .ok (.astore_n 0, 1)) (hj : 0 < nL) (hs : stOK (w :: T) 0 = true) (kk : K n (pc + 1) (some (vX x) :: T) st S) : K n pc (w :: T) (vX x :: st) S := r_xstore_nG M d hj hs rfl kk
theorem r_lstore_0 (M : Mk g own cc nL fr lo N K) {w : Option AV} {w2 : Option AV} {T : List (Option AV)} {x : Int} (d : decode cc pc = .ok (.lstore_n 0, 1)) (hj : 0 + 1 < nL) (hs : stOK (w :: w2 :: T) 0 = true) (kk : K n (pc + 1) (some (vL x) :: none :: T) st S) : K n pc (w :: w2 :: T) (vL x :: st) S := r_lstore_nG M d hj hs rfl kk
theorem r_iinc_0 (M : Mk g own cc nL fr lo N K) {T : List (Option AV)} {x z : Int} (y : Int) (d : decode cc pc = .ok (.iinc 0 z, 3)) (hy : x + z = y) (hj : 0 < nL) (hs : stOK (some (vI x) :: T) 0 = true) (kk : K n (pc + 3) (some (vI y) :: T) st S) : K n pc (some (vI x) :: T) st S := r_iincG M d rfl hy hj hs rfl kk
theorem r_istore_1 (M : Mk g own cc nL fr lo N K) {a0 w : Option AV} {T : List (Option AV)} {x : Int} (d : decode cc pc = .ok (.istore_n 1, 1)) (hj : 1 < nL) (hs : stOK (a0 :: w :: T) 1 = true) (kk : K n (pc + 1) (a0 :: some (vI x) :: T) st S) : K n pc (a0 :: w :: T) (vI x :: st) S := r_istore_nG M d hj hs rfl kk
theorem r_astore_1 (M : Mk g own cc nL fr lo N K) {a0 w : Option AV} {T : List (Option AV)} {t i : Nat} (d : decode cc pc = .ok (.astore_n 1, 1)) (hj : 1 < nL) (hs : stOK (a0 :: w :: T) 1 = true) (kk : K n (pc + 1) (a0 :: some (vR t i) :: T) st S) : K n pc (a0 :: w :: T) (vR t i :: st) S := r_astore_nG M d hj hs rfl kk
theorem r_xstore_1 (M : Mk g own cc nL fr lo N K) {a0 w : Option AV} {T : List (Option AV)} {x : Nat} (d : decode cc pc = .ok (.astore_n 1, 1)) (hj : 1 < nL) (hs : stOK (a0 :: w :: T) 1 = true) (kk : K n (pc + 1) (a0 :: some (vX x) :: T) st S) : K n pc (a0 :: w :: T) (vX x :: st) S := r_xstore_nG M d hj hs rfl kk
theorem r_lstore_1 (M : Mk g own cc nL fr lo N K) {a0 w : Option AV} {w2 : Option AV} {T : List (Option AV)} {x : Int} (d : decode cc pc = .ok (.lstore_n 1, 1)) (hj : 1 + 1 < nL) (hs : stOK (a0 :: w :: w2 :: T) 1 = true) (kk : K n (pc + 1) (a0 :: some (vL x) :: none :: T) st S) : K n pc (a0 :: w :: w2 :: T) (vL x :: st) S := r_lstore_nG M d hj hs rfl kk
theorem r_iinc_1 (M : Mk g own cc nL fr lo N K) {a0 : Option AV} {T : List (Option AV)} {x z : Int} (y : Int) (d : decode cc pc = .ok (.iinc 1 z, 3)) (hy : x + z = y) (hj : 1 < nL) (hs : stOK (a0 :: some (vI x) :: T) 1 = true) (kk : K n (pc + 3) (a0 :: some (vI y) :: T) st S) : K n pc (a0 :: some (vI x) :: T) st S := r_iincG M d rfl hy hj hs rfl kk
theorem r_istore_2 (M : Mk g own cc nL fr lo N K) {a0 a1 w : Option AV} {T : List (Option AV)} {x : Int} (d : decode cc pc = .ok (.istore_n 2, 1)) (hj : 2 < nL) (hs : stOK (a0 :: a1 :: w :: T) 2 = true) (kk : K n (pc + 1) (a0 :: a1 :: some (vI x) :: T) st S) : K n pc (a0 :: a1 :: w :: T) (vI x :: st) S := r_istore_nG M d hj hs rfl kk
theorem r_astore_2 (M : Mk g own cc nL fr lo N K) {a0 a1 w : Option AV} {T : List (Option AV)} {t i : Nat} (d : decode cc pc = .ok (.astore_n 2, 1)) (hj : 2 < nL) (hs : stOK (a0 :: a1 :: w :: T) 2 = true) (kk : K n (pc + 1) (a0 :: a1 :: some (vR t i) :: T) st S) : K n pc (a0 :: a1 :: w :: T) (vR t i :: st) S := r_astore_nG M d hj hs rfl kk
theorem r_xstore_2 (M : Mk g own cc nL fr lo N K) {a0 a1 w : Option AV} {T : List (Option AV)} {x : Nat} (d : decode cc pc = .ok (.astore_n 2, 1)) (hj : 2 < nL) (hs : stOK (a0 :: a1 :: w :: T) 2 = true) (kk : K n (pc + 1) (a0 :: a1 :: some (vX x) :: T) st S) : K n pc (a0 :: a1 :: w :: T) (vX x :: st) S := r_xstore_nG M d hj hs rfl kk
theorem r_lstore_2 (M : Mk g own cc nL fr lo N K) {a0 a1 w : Option AV} {w2 : Option AV} {T : List (Option AV)} {x : Int} (d : decode cc pc = .ok (.lstore_n 2, 1)) (hj : 2 + 1 < nL) (hs : stOK (a0 :: a1 :: w :: w2 :: T) 2 = true) (kk : K n (pc + 1) (a0 :: a1 :: some (vL x) :: none :: T) st S) : K n pc (a0 :: a1 :: w :: w2 :: T) (vL x :: st) S := r_lstore_nG M d hj hs rfl kk
theorem r_iinc_2 (M : Mk g own cc nL fr lo N K) {a0 a1 : Option AV} {T : List (Option AV)} {x z : Int} (y : Int) (d : decode cc pc = .ok (.iinc 2 z, 3)) (hy : x + z = y) (hj : 2 < nL) (hs : stOK (a0 :: a1 :: some (vI x) :: T) 2 = true) (kk : K n (pc + 3) (a0 :: a1 :: some (vI y) :: T) st S) : K n pc (a0 :: a1 :: some (vI x) :: T) st S := r_iincG M d rfl hy hj hs rfl kk
theorem r_istore_3 (M : Mk g own cc nL fr lo N K) {a0 a1 a2 w : Option AV} {T : List (Option AV)} {x : Int} (d : decode cc pc = .ok (.istore_n 3, 1)) (hj : 3 < nL) (hs : stOK (a0 :: a1 :: a2 :: w :: T) 3 = true) (kk : K n (pc + 1) (a0 :: a1 :: a2 :: some (vI x) :: T) st S) : K n pc (a0 :: a1 :: a2 :: w :: T) (vI x :: st) S := r_istore_nG M d hj hs rfl kk
theorem r_astore_3 (M : Mk g own cc nL fr lo N K) {a0 a1 a2 w : Option AV} {T : List (Option AV)} {t i : Nat} (d : decode cc pc = .ok (.astore_n 3, 1)) (hj : 3 < nL) (hs : stOK (a0 :: a1 :: a2 :: w :: T) 3 = true) (kk : K n (pc + 1) (a0 :: a1 :: a2 :: some (vR t i) :: T) st S) : K n pc (a0 :: a1 :: a2 :: w :: T) (vR t i :: st) S := r_astore_nG M d hj hs rfl kk
theorem r_xstore_3 (M : Mk g own cc nL fr lo N K) {a0 a1 a2 w : Option AV} {T : List (Option AV)} {x : Nat} (d : decode cc pc = .ok (.astore_n 3, 1)) (hj : 3 < nL) (hs : stOK (a0 :: a1 :: a2 :: w :: T) 3 = true) (kk : K n (pc + 1) (a0 :: a1 :: a2 :: some (vX x) :: T) st S) : K n pc (a0 :: a1 :: a2 :: w :: T) (vX x :: st) S := r_xstore_nG M d hj hs rfl kk
theorem r_lstore_3 (M : Mk g own cc nL fr lo N K) {a0 a1 a2 w : Option AV} {w2 : Option AV} {T : List (Option AV)} {x : Int} (d : decode cc pc = .ok (.lstore_n 3, 1)) (hj : 3 + 1 < nL) (hs : stOK (a0 :: a1 :: a2 :: w :: w2 :: T) 3 = true) (kk : K n (pc + 1) (a0 :: a1 :: a2 :: some (vL x) :: none :: T) st S) : K n pc (a0 :: a1 :: a2 :: w :: w2 :: T) (vL x :: st) S := r_lstore_nG M d hj hs rfl kk
theorem r_iinc_3 (M : Mk g own cc nL fr lo N K) {a0 a1 a2 : Option AV} {T : List (Option AV)} {x z : Int} (y : Int) (d : decode cc pc = .ok (.iinc 3 z, 3)) (hy : x + z = y) (hj : 3 < nL) (hs : stOK (a0 :: a1 :: a2 :: some (vI x) :: T) 3 = true) (kk : K n (pc + 3) (a0 :: a1 :: a2 :: some (vI y) :: T) st S) : K n pc (a0 :: a1 :: a2 :: some (vI x) :: T) st S := r_iincG M d rfl hy hj hs rfl kk
theorem r_istore_4 (M : Mk g own cc nL fr lo N K) {a0 a1 a2 a3 w : Option AV} {T : List (Option AV)} {x : Int} (d : decode cc pc = .ok (.istore 4, 2)) (hj : 4 < nL) (hs : stOK (a0 :: a1 :: a2 :: a3 :: w :: T) 4 = true) (kk : K n (pc + 2) (a0 :: a1 :: a2 :: a3 :: some (vI x) :: T) st S) : K n pc (a0 :: a1 :: a2 :: a3 :: w :: T) (vI x :: st) S := r_istoreG M d hj hs rfl kk
theorem r_astore_4 (M : Mk g own cc nL fr lo N K) {a0 a1 a2 a3 w : Option AV} {T : List (Option AV)} {t i : Nat} (d : decode cc pc = .ok (.astore 4, 2)) (hj : 4 < nL) (hs : stOK (a0 :: a1 :: a2 :: a3 :: w :: T) 4 = true) (kk : K n (pc + 2) (a0 :: a1 :: a2 :: a3 :: some (vR t i) :: T) st S) : K n pc (a0 :: a1 :: a2 :: a3 :: w :: T) (vR t i :: st) S := r_astoreG M d hj hs rfl kk
theorem r_xstore_4 (M : Mk g own cc nL fr lo N K) {a0 a1 a2 a3 w : Option AV} {T : List (Option AV)} {x : Nat} (d : decode cc pc = .ok (.astore 4, 2)) (hj : 4 < nL) (hs : stOK (a0 :: a1 :: a2 :: a3 :: w :: T) 4 = true) (kk : K n (pc + 2) (a0 :: a1 :: a2 :: a3 :: some (vX x) :: T) st S) : K n pc (a0 :: a1 :: a2 :: a3 :: w :: T) (vX x :: st) S := r_xstoreG M d hj hs rfl kk
theorem r_lstore_4 (M : Mk g own cc nL fr lo N K) {a0 a1 a2 a3 w : Option AV} {w2 : Option AV} {T : List (Option AV)} {x : Int} (d : decode cc pc = .ok (.lstore 4, 2)) (hj : 4 + 1 < nL) (hs : stOK (a0 :: a1 :: a2 :: a3 :: w :: w2 :: T) 4 = true) (kk : K n (pc + 2) (a0 :: a1 :: a2 :: a3 :: some (vL x) :: none :: T) st S) : K n pc (a0 :: a1 :: a2 :: a3 :: w :: w2 :: T) (vL x :: st) S := r_lstoreG M d hj hs rfl kk
theorem r_iinc_4 (M : Mk g own cc nL fr lo N K) {a0 a1 a2 a3 : Option AV} {T : List (Option AV)} {x z : Int} (y : Int) (d : decode cc pc = .ok (.iinc 4 z, 3)) (hy : x + z = y) (hj : 4 < nL) (hs : stOK (a0 :: a1 :: a2 :: a3 :: some (vI x) :: T) 4 = true) (kk : K n (pc + 3) (a0 :: a1 :: a2 :: a3 :: some (vI y) :: T) st S) : K n pc (a0 :: a1 :: a2 :: a3 :: some (vI x) :: T) st S := r_iincG M d rfl hy hj hs rfl kk
theorem r_istore_5 (M : Mk g own cc nL fr lo N K) {a0 a1 a2 a3 a4 w : Option AV} {T : List (Option AV)} {x : Int} (d : decode cc pc = .ok (.istore 5, 2)) (hj : 5 < nL) (hs : stOK (a0 :: a1 :: a2 :: a3 :: a4 :: w :: T) 5 = true) (kk : K n (pc + 2) (a0 :: a1 :: a2 :: a3 :: a4 :: some (vI x) :: T) st S) : K n pc (a0 :: a1 :: a2 :: a3 :: a4 :: w :: T) (vI x :: st) S := r_istoreG M d hj hs rfl kk
theorem r_astore_5 (M : Mk g own cc nL fr lo N K) {a0 a1 a2 a3 a4 w : Option AV} {T : List (Option AV)} {t i : Nat} (d : decode cc pc = .ok (.astore 5, 2)) (hj : 5 < nL) (hs : stOK (a0 :: a1 :: a2 :: a3 :: a4 :: w :: T) 5 = true) (kk : K n (pc + 2) (a0 :: a1 :: a2 :: a3 :: a4 :: some (vR t i) :: T) st S) : K n pc (a0 :: a1 :: a2 :: a3 :: a4 :: w :: T) (vR t i :: st) S := r_astoreG M d hj hs rfl kk
theorem r_xstore_5 (M : Mk g own cc nL fr lo N K) {a0 a1 a2 a3 a4 w : Option AV} {T : List (Option AV)} {x : Nat} (d : decode cc pc = .ok (.astore 5, 2)) (hj : 5 < nL) (hs : stOK (a0 :: a1 :: a2 :: a3 :: a4 :: w :: T) 5 = true) (kk : K n (pc + 2) (a0 :: a1 :: a2 :: a3 :: a4 :: some (vX x) :: T) st S) : K n pc (a0 :: a1 :: a2 :: a3 :: a4 :: w :: T) (vX x :: st) S := r_xstoreG M d hj hs rfl kk
theorem r_lstore_5 (M : Mk g own cc nL fr lo N K) {a0 a1 a2 a3 a4 w : Option AV} {w2 : Option AV} {T : List (Option AV)} {x : Int} (d : decode cc pc = .ok (.lstore 5, 2)) (hj : 5 + 1 < nL) (hs : stOK (a0 :: a1 :: a2 :: a3 :: a4 :: w :: w2 :: T) 5 = true) (kk : K n (pc + 2) (a0 :: a1 :: a2 :: a3 :: a4 :: some (vL x) :: none :: T) st S) : K n pc (a0 :: a1 :: a2 :: a3 :: a4 :: w :: w2 :: T) (vL x :: st) S := r_lstoreG M d hj hs rfl kk
theorem r_iinc_5 (M : Mk g own cc nL fr lo N K) {a0 a1 a2 a3 a4 : Option AV} {T : List (Option AV)} {x z : Int} (y : Int) (d : decode cc pc = .ok (.iinc 5 z, 3)) (hy : x + z = y) (hj : 5 < nL) (hs : stOK (a0 :: a1 :: a2 :: a3 :: a4 :: some (vI x) :: T) 5 = true) (kk : K n (pc + 3) (a0 :: a1 :: a2 :: a3 :: a4 :: some (vI y) :: T) st S) : K n pc (a0 :: a1 :: a2 :: a3 :: a4 :: some (vI x) :: T) st S := r_iincG M d rfl hy hj hs rfl kk
theorem r_istore_6 (M : Mk g own cc nL fr lo N K) {a0 a1 a2 a3 a4 a5 w : Option AV} {T : List (Option AV)} {x : Int} (d : decode cc pc = .ok (.istore 6, 2)) (hj : 6 < nL) (hs : stOK (a0 :: a1 :: a2 :: a3 :: a4 :: a5 :: w :: T) 6 = true) (kk : K n (pc + 2) (a0 :: a1 :: a2 :: a3 :: a4 :: a5 :: some (vI x) :: T) st S) : K n pc (a0 :: a1 :: a2 :: a3 :: a4 :: a5 :: w :: T) (vI x :: st) S := r_istoreG M d hj hs rfl kk
theorem r_astore_6 (M : Mk g own cc nL fr lo N K) {a0 a1 a2 a3 a4 a5 w : Option AV} {T : List (Option AV)} {t i : Nat} (d : decode cc pc = .ok (.astore 6, 2)) (hj : 6 < nL) (hs : stOK (a0 :: a1 :: a2 :: a3 :: a4 :: a5 :: w :: T) 6 = true) (kk : K n (pc + 2) (a0 :: a1 :: a2 :: a3 :: a4 :: a5 :: some (vR t i) :: T) st S) : K n pc (a0 :: a1 :: a2 :: a3 :: a4 :: a5 :: w :: T) (vR t i :: st) S := r_astoreG M d hj hs rfl kk
theorem r_xstore_6 (M : Mk g own cc nL fr lo N K) {a0 a1 a2 a3 a4 a5 w : Option AV} {T : List (Option AV)} {x : Nat} (d : decode cc pc = .ok (.astore 6, 2)) (hj : 6 < nL) (hs : stOK (a0 :: a1 :: a2 :: a3 :: a4 :: a5 :: w :: T) 6 = true) (kk : K n (pc + 2) (a0 :: a1 :: a2 :: a3 :: a4 :: a5 :: some (vX x) :: T) st S) : K n pc (a0 :: a1 :: a2 :: a3 :: a4 :: a5 :: w :: T) (vX x :: st) S := r_xstoreG M d hj hs rfl kk
theorem r_lstore_6 (M : Mk g own cc nL fr lo N K) {a0 a1 a2 a3 a4 a5 w : Option AV} {w2 : Option AV} {T : List (Option AV)} {x : Int} (d : decode cc pc = .ok (.lstore 6, 2)) (hj : 6 + 1 < nL) (hs : stOK (a0 :: a1 :: a2 :: a3 :: a4 :: a5 :: w :: w2 :: T) 6 = true) (kk : K n (pc + 2) (a0 :: a1 :: a2 :: a3 :: a4 :: a5 :: some (vL x) :: none :: T) st S) : K n pc (a0 :: a1 :: a2 :: a3 :: a4 :: a5 :: w :: w2 :: T) (vL x :: st) S := r_lstoreG M d hj hs rfl kk
theorem r_iinc_6 (M : Mk g own cc nL fr lo N K) {a0 a1 a2 a3 a4 a5 : Option AV} {T : List (Option AV)} {x z : Int} (y : Int) (d : decode cc pc = .ok (.iinc 6 z, 3)) (hy : x + z = y) (hj : 6 < nL) (hs : stOK (a0 :: a1 :: a2 :: a3 :: a4 :: a5 :: some (vI x) :: T) 6 = true) (kk : K n (pc + 3) (a0 :: a1 :: a2 :: a3 :: a4 :: a5 :: some (vI y) :: T) st S) : K n pc (a0 :: a1 :: a2 :: a3 :: a4 :: a5 :: some (vI x) :: T) st S := r_iincG M d rfl hy hj hs rfl kk
theorem r_istore_7 (M : Mk g own cc nL fr lo N K) {a0 a1 a2 a3 a4 a5 a6 w : Option AV} {T : List (Option AV)} {x : Int} (d : decode cc pc = .ok (.istore 7, 2)) (hj : 7 < nL) (hs : stOK (a0 :: a1 :: a2 :: a3 :: a4 :: a5 :: a6 :: w :: T) 7 = true) (kk : K n (pc + 2) (a0 :: a1 :: a2 :: a3 :: a4 :: a5 :: a6 :: some (vI x) :: T) st S) : K n pc (a0 :: a1 :: a2 :: a3 :: a4 :: a5 :: a6 :: w :: T) (vI x :: st) S := r_istoreG M d hj hs rfl kk
theorem r_astore_7 (M : Mk g own cc nL fr lo N K) {a0 a1 a2 a3 a4 a5 a6 w : Option AV} {T : List (Option AV)} {t i : Nat} (d : decode cc pc = .ok (.astore 7, 2)) (hj : 7 < nL) (hs : stOK (a0 :: a1 :: a2 :: a3 :: a4 :: a5 :: a6 :: w :: T) 7 = true) (kk : K n (pc + 2) (a0 :: a1 :: a2 :: a3 :: a4 :: a5 :: a6 :: some (vR t i) :: T) st S) : K n pc (a0 :: a1 :: a2 :: a3 :: a4 :: a5 :: a6 :: w :: T) (vR t i :: st) S := r_astoreG M d hj hs rfl kk
theorem r_xstore_7 (M : Mk g own cc nL fr lo N K) {a0 a1 a2 a3 a4 a5 a6 w : Option AV} {T : List (Option AV)} {x : Nat} (d : decode cc pc = .ok (.astore 7, 2)) (hj : 7 < nL) (hs : stOK (a0 :: a1 :: a2 :: a3 :: a4 :: a5 :: a6 :: w :: T) 7 = true) (kk : K n (pc + 2) (a0 :: a1 :: a2 :: a3 :: a4 :: a5 :: a6 :: some (vX x) :: T) st S) : K n pc (a0 :: a1 :: a2 :: a3 :: a4 :: a5 :: a6 :: w :: T) (vX x :: st) S := r_xstoreG M d hj hs rfl kk
theorem r_lstore_7 (M : Mk g own cc nL fr lo N K) {a0 a1 a2 a3 a4 a5 a6 w : Option AV} {w2 : Option AV} {T : List (Option AV)} {x : Int} (d : decode cc pc = .ok (.lstore 7, 2)) (hj : 7 + 1 < nL) (hs : stOK (a0 :: a1 :: a2 :: a3 :: a4 :: a5 :: a6 :: w :: w2 :: T) 7 = true) (kk : K n (pc + 2) (a0 :: a1 :: a2 :: a3 :: a4 :: a5 :: a6 :: some (vL x) :: none :: T) st S) : K n pc (a0 :: a1 :: a2 :: a3 :: a4 :: a5 :: a6 :: w :: w2 :: T) (vL x :: st) S := r_lstoreG M d hj hs rfl kk
theorem r_iinc_7 (M : Mk g own cc nL fr lo N K) {a0 a1 a2 a3 a4 a5 a6 : Option AV} {T : List (Option AV)} {x z : Int} (y : Int) (d : decode cc pc = .ok (.iinc 7 z, 3)) (hy : x + z = y) (hj : 7 < nL) (hs : stOK (a0 :: a1 :: a2 :: a3 :: a4 :: a5 :: a6 :: some (vI x) :: T) 7 = true) (kk : K n (pc + 3) (a0 :: a1 :: a2 :: a3 :: a4 :: a5 :: a6 :: some (vI y) :: T) st S) : K n pc (a0 :: a1 :: a2 :: a3 :: a4 :: a5 :: a6 :: some (vI x) :: T) st S := r_iincG M d rfl hy hj hs rfl kk
theorem r_istore_8 (M : Mk g own cc nL fr lo N K) {a0 a1 a2 a3 a4 a5 a6 a7 w : Option AV} {T : List (Option AV)} {x : Int} (d : decode cc pc = .ok (.istore 8, 2)) (hj : 8 < nL) (hs : stOK (a0 :: a1 :: a2 :: a3 :: a4 :: a5 :: a6 :: a7 :: w :: T) 8 = true) (kk : K n (pc + 2) (a0 :: a1 :: a2 :: a3 :: a4 :: a5 :: a6 :: a7 :: some (vI x) :: T) st S) : K n pc (a0 :: a1 :: a2 :: a3 :: a4 :: a5 :: a6 :: a7 :: w :: T) (vI x :: st) S := r_istoreG M d hj hs rfl kk
theorem r_astore_8 (M : Mk g own cc nL fr lo N K) {a0 a1 a2 a3 a4 a5 a6 a7 w : Option AV} {T : List (Option AV)} {t i : Nat} (d : decode cc pc = .ok (.astore 8, 2)) (hj : 8 < nL) (hs : stOK (a0 :: a1 :: a2 :: a3 :: a4 :: a5 :: a6 :: a7 :: w :: T) 8 = true) (kk : K n (pc + 2) (a0 :: a1 :: a2 :: a3 :: a4 :: a5 :: a6 :: a7 :: some (vR t i) :: T) st S) : K n pc (a0 :: a1 :: a2 :: a3 :: a4 :: a5 :: a6 :: a7 :: w :: T) (vR t i :: st) S := r_astoreG M d hj hs rfl kk
theorem r_xstore_8 (M : Mk g own cc nL fr lo N K) {a0 a1 a2 a3 a4 a5 a6 a7 w : Option AV} {T : List (Option AV)} {x : Nat} (d : decode cc pc = .ok (.astore 8, 2)) (hj : 8 < nL) (hs : stOK (a0 :: a1 :: a2 :: a3 :: a4 :: a5 :: a6 :: a7 :: w :: T) 8 = true) (kk : K n (pc + 2) (a0 :: a1 :: a2 :: a3 :: a4 :: a5 :: a6 :: a7 :: some (vX x) :: T) st S) : K n pc (a0 :: a1 :: a2 :: a3 :: a4 :: a5 :: a6 :: a7 :: w :: T) (vX x :: st) S := r_xstoreG M d hj hs rfl kk
theorem r_lstore_8 (M : Mk g own cc nL fr lo N K) {a0 a1 a2 a3 a4 a5 a6 a7 w : Option AV} {w2 : Option AV} {T : List (Option AV)} {x : Int} (d : decode cc pc = .ok (.lstore 8, 2)) (hj : 8 + 1 < nL) (hs : stOK (a0 :: a1 :: a2 :: a3 :: a4 :: a5 :: a6 :: a7 :: w :: w2 :: T) 8 = true) (kk : K n (pc + 2) (a0 :: a1 :: a2 :: a3 :: a4 :: a5 :: a6 :: a7 :: some (vL x) :: none :: T) st S) : K n pc (a0 :: a1 :: a2 :: a3 :: a4 :: a5 :: a6 :: a7 :: w :: w2 :: T) (vL x :: st) S := r_lstoreG M d hj hs rfl kk
theorem r_iinc_8 (M : Mk g own cc nL fr lo N K) {a0 a1 a2 a3 a4 a5 a6 a7 : Option AV} {T : List (Option AV)} {x z : Int} (y : Int) (d : decode cc pc = .ok (.iinc 8 z, 3)) (hy : x + z = y) (hj : 8 < nL) (hs : stOK (a0 :: a1 :: a2 :: a3 :: a4 :: a5 :: a6 :: a7 :: some (vI x) :: T) 8 = true) (kk : K n (pc + 3) (a0 :: a1 :: a2 :: a3 :: a4 :: a5 :: a6 :: a7 :: some (vI y) :: T) st S) : K n pc (a0 :: a1 :: a2 :: a3 :: a4 :: a5 :: a6 :: a7 :: some (vI x) :: T) st S := r_iincG M d rfl hy hj hs rfl kk
theorem r_istore_9 (M : Mk g own cc nL fr lo N K) {a0 a1 a2 a3 a4 a5 a6 a7 a8 w : Option AV} {T : List (Option AV)} {x : Int} (d : decode cc pc = .ok (.istore 9, 2)) (hj : 9 < nL) (hs : stOK (a0 :: a1 :: a2 :: a3 :: a4 :: a5 :: a6 :: a7 :: a8 :: w :: T) 9 = true) (kk : K n (pc + 2) (a0 :: a1 :: a2 :: a3 :: a4 :: a5 :: a6 :: a7 :: a8 :: some (vI x) :: T) st S) : K n pc (a0 :: a1 :: a2 :: a3 :: a4 :: a5 :: a6 :: a7 :: a8 :: w :: T) (vI x :: st) S := r_istoreG M d hj hs rfl kk
theorem r_astore_9 (M : Mk g own cc nL fr lo N K) {a0 a1 a2 a3 a4 a5 a6 a7 a8 w : Option AV} {T : List (Option AV)} {t i : Nat} (d : decode cc pc = .ok (.astore 9, 2)) (hj : 9 < nL) (hs : stOK (a0 :: a1 :: a2 :: a3 :: a4 :: a5 :: a6 :: a7 :: a8 :: w :: T) 9 = true) (kk : K n (pc + 2) (a0 :: a1 :: a2 :: a3 :: a4 :: a5 :: a6 :: a7 :: a8 :: some (vR t i) :: T) st S) : K n pc (a0 :: a1 :: a2 :: a3 :: a4 :: a5 :: a6 :: a7 :: a8 :: w :: T) (vR t i :: st) S := r_astoreG M d hj hs rfl kk
theorem r_xstore_9 (M : Mk g own cc nL fr lo N K) {a0 a1 a2 a3 a4 a5 a6 a7 a8 w : Option AV} {T : List (Option AV)} {x : Nat} (d : decode cc pc = .ok (.astore 9, 2)) (hj : 9 < nL) (hs : stOK (a0 :: a1 :: a2 :: a3 :: a4 :: a5 :: a6 :: a7 :: a8 :: w :: T) 9 = true) (kk : K n (pc + 2) (a0 :: a1 :: a2 :: a3 :: a4 :: a5 :: a6 :: a7 :: a8 :: some (vX x) :: T) st S) : K n pc (a0 :: a1 :: a2 :: a3 :: a4 :: a5 :: a6 :: a7 :: a8 :: w :: T) (vX x :: st) S := r_xstoreG M d hj hs rfl kk
theorem r_lstore_9 (M : Mk g own cc nL fr lo N K) {a0 a1 a2 a3 a4 a5 a6 a7 a8 w : Option AV} {w2 : Option AV} {T : List (Option AV)} {x : Int} (d : decode cc pc = .ok (.lstore 9, 2)) (hj : 9 + 1 < nL) (hs : stOK (a0 :: a1 :: a2 :: a3 :: a4 :: a5 :: a6 :: a7 :: a8 :: w :: w2 :: T) 9 = true) (kk : K n (pc + 2) (a0 :: a1 :: a2 :: a3 :: a4 :: a5 :: a6 :: a7 :: a8 :: some (vL x) :: none :: T) st S) : K n pc (a0 :: a1 :: a2 :: a3 :: a4 :: a5 :: a6 :: a7 :: a8 :: w :: w2 :: T) (vL x :: st) S := r_lstoreG M d hj hs rfl kk
theorem r_iinc_9 (M : Mk g own cc nL fr lo N K) {a0 a1 a2 a3 a4 a5 a6 a7 a8 : Option AV} {T : List (Option AV)} {x z : Int} (y : Int) (d : decode cc pc = .ok (.iinc 9 z, 3)) (hy : x + z = y) (hj : 9 < nL) (hs : stOK (a0 :: a1 :: a2 :: a3 :: a4 :: a5 :: a6 :: a7 :: a8 :: some (vI x) :: T) 9 = true) (kk : K n (pc + 3) (a0 :: a1 :: a2 :: a3 :: a4 :: a5 :: a6 :: a7 :: a8 :: some (vI y) :: T) st S) : K n pc (a0 :: a1 :: a2 :: a3 :: a4 :: a5 :: a6 :: a7 :: a8 :: some (vI x) :: T) st S := r_iincG M d rfl hy hj hs rfl kk
theorem r_istore_10 (M : Mk g own cc nL fr lo N K) {a0 a1 a2 a3 a4 a5 a6 a7 a8 a9 w : Option AV} {T : List (Option AV)} {x : Int} (d : decode cc pc = .ok (.istore 10, 2)) (hj : 10 < nL) (hs : stOK (a0 :: a1 :: a2 :: a3 :: a4 :: a5 :: a6 :: a7 :: a8 :: a9 :: w :: T) 10 = true) (kk : K n (pc + 2) (a0 :: a1 :: a2 :: a3 :: a4 :: a5 :: a6 :: a7 :: a8 :: a9 :: some (vI x) :: T) st S) : K n pc (a0 :: a1 :: a2 :: a3 :: a4 :: a5 :: a6 :: a7 :: a8 :: a9 :: w :: T) (vI x :: st) S := r_istoreG M d hj hs rfl kk
theorem r_astore_10 (M : Mk g own cc nL fr lo N K) {a0 a1 a2 a3 a4 a5 a6 a7 a8 a9 w : Option AV} {T : List (Option AV)} {t i : Nat} (d : decode cc pc = .ok (.astore 10, 2)) (hj : 10 < nL) (hs : stOK (a0 :: a1 :: a2 :: a3 :: a4 :: a5 :: a6 :: a7 :: a8 :: a9 :: w :: T) 10 = true) (kk : K n (pc + 2) (a0 :: a1 :: a2 :: a3 :: a4 :: a5 :: a6 :: a7 :: a8 :: a9 :: some (vR t i) :: T) st S) : K n pc (a0 :: a1 :: a2 :: a3 :: a4 :: a5 :: a6 :: a7 :: a8 :: a9 :: w :: T) (vR t i :: st) S := r_astoreG M d hj hs rfl kk
theorem r_xstore_10 (M : Mk g own cc nL fr lo N K) {a0 a1 a2 a3 a4 a5 a6 a7 a8 a9 w : Option AV} {T : List (Option AV)} {x : Nat} (d : decode cc pc = .ok (.astore 10, 2)) (hj : 10 < nL) (hs : stOK (a0 :: a1 :: a2 :: a3 :: a4 :: a5 :: a6 :: a7 :: a8 :: a9 :: w :: T) 10 = true) (kk : K n (pc + 2) (a0 :: a1 :: a2 :: a3 :: a4 :: a5 :: a6 :: a7 :: a8 :: a9 :: some (vX x) :: T) st S) : K n pc (a0 :: a1 :: a2 :: a3 :: a4 :: a5 :: a6 :: a7 :: a8 :: a9 :: w :: T) (vX x :: st) S := r_xstoreG M d hj hs rfl kk
theorem r_lstore_10 (M : Mk g own cc nL fr lo N K) {a0 a1 a2 a3 a4 a5 a6 a7 a8 a9 w : Option AV} {w2 : Option AV} {T : List (Option AV)} {x : Int} (d : decode cc pc = .ok (.lstore 10, 2)) (hj : 10 + 1 < nL) (hs : stOK (a0 :: a1 :: a2 :: a3 :: a4 :: a5 :: a6 :: a7 :: a8 :: a9 :: w :: w2 :: T) 10 = true) (kk : K n (pc + 2) (a0 :: a1 :: a2 :: a3 :: a4 :: a5 :: a6 :: a7 :: a8 :: a9 :: some (vL x) :: none :: T) st S) : K n pc (a0 :: a1 :: a2 :: a3 :: a4 :: a5 :: a6 :: a7 :: a8 :: a9 :: w :: w2 :: T) (vL x :: st) S := r_lstoreG M d hj hs rfl kk
theorem r_iinc_10 (M : Mk g own cc nL fr lo N K) {a0 a1 a2 a3 a4 a5 a6 a7 a8 a9 : Option AV} {T : List (Option AV)} {x z : Int} (y : Int) (d : decode cc pc = .ok (.iinc 10 z, 3)) (hy : x + z = y) (hj : 10 < nL) (hs : stOK (a0 :: a1 :: a2 :: a3 :: a4 :: a5 :: a6 :: a7 :: a8 :: a9 :: some (vI x) :: T) 10 = true) (kk : K n (pc + 3) (a0 :: a1 :: a2 :: a3 :: a4 :: a5 :: a6 :: a7 :: a8 :: a9 :: some (vI y) :: T) st S) : K n pc (a0 :: a1 :: a2 :: a3 :: a4 :: a5 :: a6 :: a7 :: a8 :: a9 :: some (vI x) :: T) st S := r_iincG M d rfl hy hj hs rfl kk
theorem r_istore_11 (M : Mk g own cc nL fr lo N K) {a0 a1 a2 a3 a4 a5 a6 a7 a8 a9 a10 w : Option AV} {T : List (Option AV)} {x : Int} (d : decode cc pc = .ok (.istore 11, 2)) (hj : 11 < nL) (hs : stOK (a0 :: a1 :: a2 :: a3 :: a4 :: a5 :: a6 :: a7 :: a8 :: a9 :: a10 :: w :: T) 11 = true) (kk : K n (pc + 2) (a0 :: a1 :: a2 :: a3 :: a4 :: a5 :: a6 :: a7 :: a8 :: a9 :: a10 :: some (vI x) :: T) st S) : K n pc (a0 :: a1 :: a2 :: a3 :: a4 :: a5 :: a6 :: a7 :: a8 :: a9 :: a10 :: w :: T) (vI x :: st) S := r_istoreG M d hj hs rfl kk
theorem r_astore_11 (M : Mk g own cc nL fr lo N K) {a0 a1 a2 a3 a4 a5 a6 a7 a8 a9 a10 w : Option AV} {T : List (Option AV)} {t i : Nat} (d : decode cc pc = .ok (.astore 11, 2)) (hj : 11 < nL) (hs : stOK (a0 :: a1 :: a2 :: a3 :: a4 :: a5 :: a6 :: a7 :: a8 :: a9 :: a10 :: w :: T) 11 = true) (kk : K n (pc + 2) (a0 :: a1 :: a2 :: a3 :: a4 :: a5 :: a6 :: a7 :: a8 :: a9 :: a10 :: some (vR t i) :: T) st S) : K n pc (a0 :: a1 :: a2 :: a3 :: a4 :: a5 :: a6 :: a7 :: a8 :: a9 :: a10 :: w :: T) (vR t i :: st) S := r_astoreG M d hj hs rfl kk
theorem r_xstore_11 (M : Mk g own cc nL fr lo N K) {a0 a1 a2 a3 a4 a5 a6 a7 a8 a9 a10 w : Option AV} {T : List (Option AV)} {x : Nat} (d : decode cc pc = .ok (.astore 11, 2)) (hj : 11 < nL) (hs : stOK (a0 :: a1 :: a2 :: a3 :: a4 :: a5 :: a6 :: a7 :: a8 :: a9 :: a10 :: w :: T) 11 = true) (kk : K n (pc + 2) (a0 :: a1 :: a2 :: a3 :: a4 :: a5 :: a6 :: a7 :: a8 :: a9 :: a10 :: some (vX x) :: T) st S) : K n pc (a0 :: a1 :: a2 :: a3 :: a4 :: a5 :: a6 :: a7 :: a8 :: a9 :: a10 :: w :: T) (vX x :: st) S := r_xstoreG M d hj hs rfl kk
theorem r_lstore_11 (M : Mk g own cc nL fr lo N K) {a0 a1 a2 a3 a4 a5 a6 a7 a8 a9 a10 w : Option AV} {w2 : Option AV} {T : List (Option AV)} {x : Int} (d : decode cc pc = .ok (.lstore 11, 2)) (hj : 11 + 1 < nL) (hs : stOK (a0 :: a1 :: a2 :: a3 :: a4 :: a5 :: a6 :: a7 :: a8 :: a9 :: a10 :: w :: w2 :: T) 11 = true) (kk : K n (pc + 2) (a0 :: a1 :: a2 :: a3 :: a4 :: a5 :: a6 :: a7 :: a8 :: a9 :: a10 :: some (vL x) :: none :: T) st S) : K n pc (a0 :: a1 :: a2 :: a3 :: a4 :: a5 :: a6 :: a7 :: a8 :: a9 :: a10 :: w :: w2 :: T) (vL x :: st) S := r_lstoreG M d hj hs rfl kk
theorem r_iinc_11 (M : Mk g own cc nL fr lo N K) {a0 a1 a2 a3 a4 a5 a6 a7 a8 a9 a10 : Option AV} {T : List (Option AV)} {x z : Int} (y : Int) (d : decode cc pc = .ok (.iinc 11 z, 3)) (hy : x + z = y) (hj : 11 < nL) (hs : stOK (a0 :: a1 :: a2 :: a3 :: a4 :: a5 :: a6 :: a7 :: a8 :: a9 :: a10 :: some (vI x) :: T) 11 = true) (kk : K n (pc + 3) (a0 :: a1 :: a2 :: a3 :: a4 :: a5 :: a6 :: a7 :: a8 :: a9 :: a10 :: some (vI y) :: T) st S) : K n pc (a0 :: a1 :: a2 :: a3 :: a4 :: a5 :: a6 :: a7 :: a8 :: a9 :: a10 :: some (vI x) :: T) st S := r_iincG M d rfl hy hj hs rfl kk
theorem r_istore_12 (M : Mk g own cc nL fr lo N K) {a0 a1 a2 a3 a4 a5 a6 a7 a8 a9 a10 a11 w : Option AV} {T : List (Option AV)} {x : Int} (d : decode cc pc = .ok (.istore 12, 2)) (hj : 12 < nL) (hs : stOK (a0 :: a1 :: a2 :: a3 :: a4 :: a5 :: a6 :: a7 :: a8 :: a9 :: a10 :: a11 :: w :: T) 12 = true) (kk : K n (pc + 2) (a0 :: a1 :: a2 :: a3 :: a4 :: a5 :: a6 :: a7 :: a8 :: a9 :: a10 :: a11 :: some (vI x) :: T) st S) : K n pc (a0 :: a1 :: a2 :: a3 :: a4 :: a5 :: a6 :: a7 :: a8 :: a9 :: a10 :: a11 :: w :: T) (vI x :: st) S := r_istoreG M d hj hs rfl kk
theorem r_astore_12 (M : Mk g own cc nL fr lo N K) {a0 a1 a2 a3 a4 a5 a6 a7 a8 a9 a10 a11 w : Option AV} {T : List (Option AV)} {t i : Nat} (d : decode cc pc = .ok (.astore 12, 2)) (hj : 12 < nL) (hs : stOK (a0 :: a1 :: a2 :: a3 :: a4 :: a5 :: a6 :: a7 :: a8 :: a9 :: a10 :: a11 :: w :: T) 12 = true) (kk : K n (pc + 2) (a0 :: a1 :: a2 :: a3 :: a4 :: a5 :: a6 :: a7 :: a8 :: a9 :: a10 :: a11 :: some (vR t i) :: T) st S) : K n pc (a0 :: a1 :: a2 :: a3 :: a4 :: a5 :: a6 :: a7 :: a8 :: a9 :: a10 :: a11 :: w :: T) (vR t i :: st) S := r_astoreG M d hj hs rfl kk
theorem r_xstore_12 (M : Mk g own cc nL fr lo N K) {a0 a1 a2 a3 a4 a5 a6 a7 a8 a9 a10 a11 w : Option AV} {T : List (Option AV)} {x : Nat} (d : decode cc pc = .ok (.astore 12, 2)) (hj : 12 < nL) (hs : stOK (a0 :: a1 :: a2 :: a3 :: a4 :: a5 :: a6 :: a7 :: a8 :: a9 :: a10 :: a11 :: w :: T) 12 = true) (kk : K n (pc + 2) (a0 :: a1 :: a2 :: a3 :: a4 :: a5 :: a6 :: a7 :: a8 :: a9 :: a10 :: a11 :: some (vX x) :: T) st S) : K n pc (a0 :: a1 :: a2 :: a3 :: a4 :: a5 :: a6 :: a7 :: a8 :: a9 :: a10 :: a11 :: w :: T) (vX x :: st) S := r_xstoreG M d hj hs rfl kk
theorem r_lstore_12 (M : Mk g own cc nL fr lo N K) {a0 a1 a2 a3 a4 a5 a6 a7 a8 a9 a10 a11 w : Option AV} {w2 : Option AV} {T : List (Option AV)} {x : Int} (d : decode cc pc = .ok (.lstore 12, 2)) (hj : 12 + 1 < nL) (hs : stOK (a0 :: a1 :: a2 :: a3 :: a4 :: a5 :: a6 :: a7 :: a8 :: a9 :: a10 :: a11 :: w :: w2 :: T) 12 = true) (kk : K n (pc + 2) (a0 :: a1 :: a2 :: a3 :: a4 :: a5 :: a6 :: a7 :: a8 :: a9 :: a10 :: a11 :: some (vL x) :: none :: T) st S) : K n pc (a0 :: a1 :: a2 :: a3 :: a4 :: a5 :: a6 :: a7 :: a8 :: a9 :: a10 :: a11 :: w :: w2 :: T) (vL x :: st) S := r_lstoreG M d hj hs rfl kk
theorem r_iinc_12 (M : Mk g own cc nL fr lo N K) {a0 a1 a2 a3 a4 a5 a6 a7 a8 a9 a10 a11 : Option AV} {T : List (Option AV)} {x z : Int} (y : Int) (d : decode cc pc = .ok (.iinc 12 z, 3)) (hy : x + z = y) (hj : 12 < nL) (hs : stOK (a0 :: a1 :: a2 :: a3 :: a4 :: a5 :: a6 :: a7 :: a8 :: a9 :: a10 :: a11 :: some (vI x) :: T) 12 = true) (kk : K n (pc + 3) (a0 :: a1 :: a2 :: a3 :: a4 :: a5 :: a6 :: a7 :: a8 :: a9 :: a10 :: a11 :: some (vI y) :: T) st S) : K n pc (a0 :: a1 :: a2 :: a3 :: a4 :: a5 :: a6 :: a7 :: a8 :: a9 :: a10 :: a11 :: some (vI x) :: T) st S := r_iincG M d rfl hy hj hs rfl kk
end KL
