/-! ===== what a constructor's walk stands on: worlds that grow ===== -/
def va_AOA (ty : FieldType) (U : State) : Prop := (Cond.arrayOver (.array ty)).before #[] U = true
theorem va_AOA.of {ty : FieldType} {A : Array Value} {U : State} (h : (Cond.arrayOver (.array ty)).before A U = true) : va_AOA ty U := h
theorem va_AOA.use {ty : FieldType} {A : Array Value} {U : State} (h : va_AOA ty U) : (Cond.arrayOver (.array ty)).before A U = true := h
theorem va_AOA.moved {ty : FieldType} {u U : State} (hvm : u.vm.Alike U.vm) (h : va_AOA ty u) : va_AOA ty U := by
  obtain ⟨comp, c, k, h1, h2, h3, h4, h5⟩ := arrayOverA_spec h
  obtain ⟨k', hk', he⟩ := hvm.2.2 _ _ h3
  have hi : (U.vm.classes.findIdx? fun (x : Class) => match x.kind with | .array component _ => component == comp | _ => false) = some c := by
    rw [hvm.findIdx?_eq _ (fun _ => rfl)]
    exact h2
  have hkind : k'.kind = .array comp (.array ty) := by rw [he]; exact h4
  have f1 : U.vm.findClass (FieldType.array ty).toString = some comp := by rw [hvm.findClass]; exact h1
  have f2 : U.vm.findClass ("[" ++ (FieldType.array ty).toString) = some c := by rw [hvm.findClass]; exact h5
  unfold va_AOA Cond.before Cond.holds
  simp only [Cond.value]
  rw [f1, Option.bind_some]
  refine (congrArg (fun o : Option Nat => (o.bind (fun c => (U.vm.classes[c]?).map fun (k : Class) => match k.kind with | .array _ ty9 => decide (ty9 = FieldType.array ty) && decide (U.vm.findClass ("[" ++ (FieldType.array ty).toString) = some c) | _ => false) == some true)) hi).trans ?_
  simp [hk', hkind, f2]
/-- what the tables say at a constructor -/
def GI (g : Gl) (U : State) : Prop := (∀ w ∈ NW, va_Nw w U) ∧ va_K g.2.1 vwCl (tyl g) U ∧ va_AO RX1 U ∧ va_AOA .int U
theorem GI.same {g : Gl} {u U : State} (h : u.vm = U.vm) (k : GI g u) : GI g U := by
  have hal : u.vm.Alike U.vm := by rw [h]; exact Vm.Alike.refl _
  exact ⟨fun w hw => va_Nw.same (nest_tab (List.mem_filter.mp hw).2) h (k.1 w hw), va_K.moved hal k.2.1, va_AO.moved hal k.2.2.1, va_AOA.moved hal k.2.2.2⟩
theorem GI.warm {g : Gl} {s U : State} (hW : s.WarmedH U.vm) (k : GI g s) : GI g U :=
  ⟨fun w hw => nest_warm (List.mem_filter.mp hw).2 hW (k.1 w hw), va_K.moved hW.alike k.2.1, va_AO.moved hW.alike k.2.2.1, va_AOA.moved hW.alike k.2.2.2⟩
/-- the cells that a constructor may write -/
def AI (h0 sz : Nat) : Nat → Prop := fun q => q = h0 ∨ sz ≤ q
def PrI (g : Gl) (h0 sz ci : Nat) (fs : List Value) : Array Value → State → Prop := va_Pc [.ref h0] (fun U => U.heap.size = sz ∧ GI g U ∧ va_P g.2.1 vwCl [(h0, .inr (ci, fs))] U.heap)
def QrI {α : Type} (g : Gl) (h0 sz : Nat) (Wu : α → va_W) : Array Value → State → Outcome → State → Prop := va_Qv (fun _ : α => True) (fun u t => va_P g.2.1 vwCl (Wu u) t.heap ∧ va_D (AI h0 sz) (Wu u)) (AI h0 sz)
def MetI {α : Type} (g : Gl) (y : MethodName) (cc : ByteArray) (nL fr lo mc ms ci : Nat) (fs : List Value) (W0 : Nat → α → va_W) : Prop :=
  ∀ h0 sz : Nat, Met g.1 y (Cond.code y cc nL none :: WT) ({ frames := fr, cells := mc, slots := ms, locals := lo }) (PrI g h0 sz ci fs) (QrI g h0 sz (W0 h0)) mc ms (AI h0 sz)
section KI
def CtI (g : Gl) (own : String) (cc : ByteArray) (nL fr lo mc ms : Nat) (p : Program) (R : Room) (s : State) (m : MethodId) (args : Array Value) (meth : Method) (c : Code) (A : Nat → Prop) : Prop :=
  p.tables.exec = Jvm.exec ∧ c.code = cc ∧ c.maxLocals = nL ∧ s.vm.findClass own = some m.cls ∧ (∀ w ∈ WT, w.before args s = true) ∧ GI g s ∧ (∀ q, s.heap.size ≤ q → A q) ∧ meth.locks = false ∧ fr ≤ R.frames ∧ lo ≤ R.locals ∧ mc ≤ R.cells ∧ ms ≤ R.slots
abbrev KTI : Type := Nat → Nat → Nat → List (Nat × Value) → List Value → va_W → Prop
def WkI (g : Gl) (nL : Nat) (p : Program) (e : Env) (R : Room) (s : State) (m : MethodId) (args : Array Value) (below : List Frame) (meth : Method) (c : Code) (A : Nat → Prop) (Q : State → Prop) : KTI := fun ce sl pc L st ws =>
  ∀ (H : Heap) (locs : List Loc) (ls : Array Slot), va_P g.2.1 vwCl ws H → va_D A ws → va_S A s.heap H locs → lv_has ls nL L → W p g.1 e R s m args below meth c H locs ce sl Q (F0 m pc ls st)
def MkI (g : Gl) (own : String) (cc : ByteArray) (nL fr lo mc ms : Nat) (ini : Bool) (K : KTI) : Prop :=
  ∃ (p : Program) (e : Env) (R : Room) (s : State) (m : MethodId) (args : Array Value) (below : List Frame) (meth : Method) (c : Code) (A : Nat → Prop) (Q : State → Prop), CtI g own cc nL fr lo mc ms p R s m args meth c A ∧ (ini = true → meth.name = "<init>") ∧ ∀ ce sl pc L st ws, K ce sl pc L st ws ↔ WkI g nL p e R s m args below meth c A Q ce sl pc L st ws
variable {g : Gl} {own : String} {cc : ByteArray} {nL fr lo mc ms : Nat} {ini : Bool} {K : KTI} {ce sl pc : Nat} {L : List (Nat × Value)} {st : List Value} {ws : va_W}
theorem MkI.go (M : MkI g own cc nL fr lo mc ms ini K) {pc' : Nat} {L' : List (Nat × Value)} {st' : List Value}
    (h : ∀ (p : Program) (e : Env) (R : Room) (s : State) (m : MethodId) (args : Array Value) (below : List Frame) (meth : Method) (c : Code) (A : Nat → Prop) (Q : State → Prop), CtI g own cc nL fr lo mc ms p R s m args meth c A → ∀ (H : Heap) (locs : List Loc) (ls : Array Slot), lv_has ls nL L →
      (∀ ls' : Array Slot, lv_has ls' nL L' → W p g.1 e R s m args below meth c H locs ce sl Q (F0 m pc' ls' st')) → W p g.1 e R s m args below meth c H locs ce sl Q (F0 m pc ls st))
    (k : K ce sl pc' L' st' ws) : K ce sl pc L st ws := by
  obtain ⟨p, e, R, s, m, args, below, meth, c, A, Q, C, hin, hK⟩ := M
  rw [hK] at k ⊢
  intro H locs ls hP hD hS hL
  exact h p e R s m args below meth c A Q C H locs ls hL (fun ls' hL' => k H locs ls' hP hD hS hL')
theorem i_aload (M : MkI g own cc nL fr lo mc ms ini K) {kf : Fin 4} {i x : Nat} (q : Nat) (d : decode cc pc = .ok (.aload_n kf, 1)) (hi : (kf : Nat) = i) (hq : L[q]? = some (i, .ref x)) (kk : K ce sl (pc + 1) L (.ref x :: st) ws) : K ce sl pc L st ws :=
  M.go (fun p e R s m args below meth c A Q C H locs ls hL k => lv_aload_n C.1 C.2.1 d hi (lv_at hL q hq) (k ls hL)) kk
theorem i_iload (M : MkI g own cc nL fr lo mc ms ini K) {kf : Fin 4} {i : Nat} {x : Int32} (q : Nat) (d : decode cc pc = .ok (.iload_n kf, 1)) (hi : (kf : Nat) = i) (hq : L[q]? = some (i, .int x)) (kk : K ce sl (pc + 1) L (.int x :: st) ws) : K ce sl pc L st ws :=
  M.go (fun p e R s m args below meth c A Q C H locs ls hL k => lv_iload_n C.1 C.2.1 d hi (lv_at hL q hq) (k ls hL)) kk
theorem i_iconst (M : MkI g own cc nL fr lo mc ms ini K) {n : Int} (v : Int32) (d : decode cc pc = .ok (.iconst n, 1)) (hv : Int32.ofInt n = v) (kk : K ce sl (pc + 1) L (.int v :: st) ws) : K ce sl pc L st ws :=
  M.go (fun p e R s m args below meth c A Q C H locs ls hL k => lv_iconst C.1 C.2.1 d hv (k ls hL)) kk
theorem i_bipush (M : MkI g own cc nL fr lo mc ms ini K) {n : Int} (v : Int32) (d : decode cc pc = .ok (.bipush n, 2)) (hv : (Int8.ofInt n).toInt32 = v) (kk : K ce sl (pc + 2) L (.int v :: st) ws) : K ce sl pc L st ws :=
  M.go (fun p e R s m args below meth c A Q C H locs ls hL k => lv_bipush C.1 C.2.1 d hv (k ls hL)) kk
theorem i_sipush (M : MkI g own cc nL fr lo mc ms ini K) {n : Int} (v : Int32) (d : decode cc pc = .ok (.sipush n, 3)) (hv : (Int16.ofInt n).toInt32 = v) (kk : K ce sl (pc + 3) L (.int v :: st) ws) : K ce sl pc L st ws :=
  M.go (fun p e R s m args below meth c A Q C H locs ls hL k => lv_sipush C.1 C.2.1 d hv (k ls hL)) kk
theorem i_dup (M : MkI g own cc nL fr lo mc ms ini K) {x : Nat} (d : decode cc pc = .ok (.dup, 1)) (kk : K ce sl (pc + 1) L (.ref x :: .ref x :: st) ws) : K ce sl pc L (.ref x :: st) ws :=
  M.go (fun p e R s m args below meth c A Q C H locs ls hL k => lv_dup C.1 C.2.1 d rfl (k ls hL)) kk
theorem i_istore (M : MkI g own cc nL fr lo mc ms ini K) {kf : Fin 4} {i : Nat} {x : Int32} (L' : List (Nat × Value)) (d : decode cc pc = .ok (.istore_n kf, 1)) (hi : (kf : Nat) = i) (hn : i < nL) (hl : (i, Value.int x) :: L.filter (fun q => !(q.1 == i) && !(q.1 + 1 == i && q.2.category == 2)) = L') (kk : K ce sl (pc + 1) L' st ws) : K ce sl pc L (.int x :: st) ws :=
  M.go (fun p e R s m args below meth c A Q C H locs ls hL k => lv_istore_n C.1 C.2.1 d hi hL hn hl (fun ls hL => k ls hL)) kk
theorem i_istoreW (M : MkI g own cc nL fr lo mc ms ini K) {i : Nat} {x : Int32} (L' : List (Nat × Value)) (d : decode cc pc = .ok (.istore i, 2)) (hn : i < nL) (hl : (i, Value.int x) :: L.filter (fun q => !(q.1 == i) && !(q.1 + 1 == i && q.2.category == 2)) = L') (kk : K ce sl (pc + 2) L' st ws) : K ce sl pc L (.int x :: st) ws :=
  M.go (fun p e R s m args below meth c A Q C H locs ls hL k => lv_istore C.1 C.2.1 d hL hn hl (fun ls hL => k ls hL)) kk
theorem i_astore (M : MkI g own cc nL fr lo mc ms ini K) {kf : Fin 4} {i x : Nat} (L' : List (Nat × Value)) (d : decode cc pc = .ok (.astore_n kf, 1)) (hi : (kf : Nat) = i) (hn : i < nL) (hl : (i, Value.ref x) :: L.filter (fun q => !(q.1 == i) && !(q.1 + 1 == i && q.2.category == 2)) = L') (kk : K ce sl (pc + 1) L' st ws) : K ce sl pc L (.ref x :: st) ws :=
  M.go (fun p e R s m args below meth c A Q C H locs ls hL k => lv_astore_n C.1 C.2.1 d hi hL hn hl (fun ls hL => k ls hL)) kk
theorem i_iinc (M : MkI g own cc nL fr lo mc ms ini K) {i : Nat} {n : Int} {x v : Int32} (q : Nat) (L' : List (Nat × Value)) (d : decode cc pc = .ok (.iinc i n, 3)) (hq : L[q]? = some (i, .int x)) (hv : x + Int32.ofInt n = v) (hn : i < nL) (hl : (i, Value.int v) :: L.filter (fun q => !(q.1 == i) && !(q.1 + 1 == i && q.2.category == 2)) = L') (kk : K ce sl (pc + 3) L' st ws) : K ce sl pc L st ws :=
  M.go (fun p e R s m args below meth c A Q C H locs ls hL k => lv_iinc C.1 C.2.1 d hL hq hv hn hl (fun ls hL => k ls hL)) kk
theorem i_goto (M : MkI g own cc nL fr lo mc ms ini K) {off : Int} (tgt : Nat) (d : decode cc pc = .ok (.goto off, 3)) (ht : (pc : Int) + off = (tgt : Int)) (kk : K ce sl tgt L st ws) : K ce sl pc L st ws :=
  M.go (fun p e R s m args below meth c A Q C H locs ls hL k => lv_goto C.1 C.2.1 d ht (k ls hL)) kk
theorem i_icmp_ge (M : MkI g own cc nL fr lo mc ms ini K) {off : Int} {x y : Int32} (tgt : Nat) (d : decode cc pc = .ok (.if_icmp .ge off, 3)) (ht : (pc : Int) + off = (tgt : Int)) (k1 : y ≤ x → K ce sl tgt L st ws) (k2 : ¬ y ≤ x → K ce sl (pc + 3) L st ws) : K ce sl pc L (.int y :: .int x :: st) ws := by
  obtain ⟨p, e, R, s, m, args, below, meth, c, A, Q, C, hin, hK⟩ := M
  rw [hK]
  intro H locs ls hP hD hS hL
  exact lv_icmp_ge C.1 C.2.1 d ht (fun q => (hK _ _ _ _ _ _).mp (k1 q) H locs ls hP hD hS hL) (fun q => (hK _ _ _ _ _ _).mp (k2 q) H locs ls hP hD hS hL)
theorem i_widen (M : MkI g own cc nL fr lo mc ms ini K) {ce' sl' : Nat} (h1 : ce ≤ ce') (h2 : sl ≤ sl') (kk : K ce' sl' pc L st ws) : K ce sl pc L st ws := by
  obtain ⟨p, e, R, s, m, args, below, meth, c, A, Q, C, hin, hK⟩ := M
  rw [hK] at kk ⊢
  intro H locs ls hP hD hS hL
  exact W.widen h1 h2 (kk H locs ls hP hD hS hL)
theorem i_obj (M : MkI g own cc nL fr lo mc ms ini K) {ix a : Nat} (d : decode cc pc = .ok (.invokespecial ix, 3)) (h1 : Cond.methodLink own ix objectInit ∈ WT) (h2 : Cond.instanceMethod objectInit ∈ WT) (h3 : Cond.code objectInit ⟨#[0xb1]⟩ 1 none ∈ WT) (hR : 1 ≤ fr ∧ 20 ≤ lo) (kk : K ce sl (pc + 3) L [] ws) : K ce sl pc L [.ref a] ws :=
  M.go (fun p e R s m args below meth c A Q C H locs ls hL k => by
    obtain ⟨hx, hb, hml, hown, hts, hG, hA, hlk, r1, r2, r3, r4⟩ := C
    refine W.objInit hx hb hown (hts _ h1) (hts _ h2) (hts _ h3) rfl (by rw [hml]; exact hL.1) rfl d (by omega) ?_ (k ls hL)
    have := lv_room (m := m) (pc := pc) (ls := ls) (rest := ([.ref a] : List Value)) (st := []) (by decide)
    simp only [List.map_nil, List.sum_nil, Nat.add_zero] at this ⊢
    omega) kk
theorem arr_pin {D : va_G} {s : State} {tys : List (ClassId × FieldType)} {cA cB : ClassId} {ty : FieldType} {k : Nat} (hK : va_K D vwCl (tys ++ [(cA, ty)]) s) (hk : tys[k]? = some (cB, ty)) : cA = cB := by
  have h1 := (hK.2 tys.length (cA, ty) (by simp)).2
  have hl := (List.getElem?_eq_some_iff.mp hk).1
  have h2 := (hK.2 k (cB, ty) (by rw [List.getElem?_append_left hl]; exact hk)).2
  cases ty with
  | object C =>
    obtain ⟨_, _, _, _, _, e1⟩ := h1
    obtain ⟨_, _, _, _, _, e2⟩ := h2
    exact Option.some.inj (e1.symm.trans e2)
  | _ => exact Option.some.inj (Eq.trans (Eq.symm h1) h2)
theorem i_newa (M : MkI g own cc nL fr lo mc ms ini K) {n : Int32} (N : Nat) (d : decode cc pc = .ok (.newarray .int, 2)) (hN : n.toNatClampNeg = N) (hn : ¬ n < 0) (hb4 : N ≤ 100000) (hc : ce + 1 ≤ mc ∧ sl + N ≤ ms) (kk : ∀ q : Nat, K (ce + 1) (sl + N) (pc + 2) L (.ref q :: st) (ws ++ [(q, .inl (g.2.2.2 0, N, .inl fun _ => 0))])) : K ce sl pc L (.int n :: st) ws := by
  obtain ⟨p, e, R, s, m, args, below, meth, c, A, Q, C, hin, hK⟩ := M
  rw [hK]
  intro H locs ls hP hD hS hL
  obtain ⟨hx, hb, hml, hown, hts, hG, hA, hlk, r1, r2, r3, r4⟩ := C
  refine va_newa (D := g.2.1) (cl := vwCl) (atype := .int) (ty := .int) (N' := N) (a0 := (N, .inl fun _ => 0)) hx hb (hts _ (wt_at 71 (by decide +kernel) rfl)) rfl hG.2.1 hP hD hS hA (fun cA => rfl) hn hN (by show N * 4 ≤ _; omega) (by omega) (by omega) d (fun q cA H1 hK1 hP1 hD1 hS1 => ?_)
  have e1 : cA = g.2.2.2 0 := arr_pin (k := 0) hK1 rfl
  subst e1
  exact (hK _ _ _ _ _ _).mp (kk q) H1 locs ls hP1 hD1 hS1 hL
theorem i_newq (M : MkI g own cc nL fr lo mc ms ini K) {n : Int32} {ix : Nat} (N : Nat) (d : decode cc pc = .ok (.anewarray ix, 3)) (hcl : Cond.classLink own ix RX1 ∈ WT) (hN : n.toNatClampNeg = N) (hn : ¬ n < 0) (hb4 : N ≤ 100000) (hc : ce + 1 ≤ mc ∧ sl + N ≤ ms) (kk : ∀ q : Nat, K (ce + 1) (sl + N) (pc + 3) L (.ref q :: st) (ws ++ [(q, .inl (g.2.2.2 1, N, .inr (.inr (.inr (.inr fun _ => none)))))])) : K ce sl pc L (.int n :: st) ws := by
  obtain ⟨p, e, R, s, m, args, below, meth, c, A, Q, C, hin, hK⟩ := M
  rw [hK]
  intro H locs ls hP hD hS hL
  obtain ⟨hx, hb, hml, hown, hts, hG, hA, hlk, r1, r2, r3, r4⟩ := C
  refine va_newq (D := g.2.1) (cl := vwCl) (N' := N) hx hb hown (hts _ hcl) hG.2.2.1 hG.2.1 hP hD hS hA hn hN (by omega) (by omega) (by omega) d (fun q cA H1 hK1 hP1 hD1 hS1 => ?_)
  have e1 : cA = g.2.2.2 1 := arr_pin (k := 1) hK1 rfl
  subst e1
  exact (hK _ _ _ _ _ _).mp (kk q) H1 locs ls hP1 hD1 hS1 hL
theorem i_new (M : MkI g own cc nL fr lo mc ms ini K) {ix N ci : Nat} {C9 : String} {T : u_T} {ty : Nat → FieldType} {fs : List Value} (d : decode cc pc = .ok (.new ix, 3)) (hci : vwCl[ci]? = some (C9, T, N)) (hw : ∀ w ∈ u_ws C9 T N, w ∈ WT) (hty : ∀ k, k < N → parseFieldDescriptor (T k).2.2.1 = some (ty k)) (h1 : Cond.classLink own ix C9 ∈ WT) (h2 : Cond.instantiable C9 N ∈ WT) (h3 : Cond.initialized C9 ∈ WT) (hfs : ∀ j, j < N → defaultValue (ty j) = vp_V fs j) (hc : ce + 1 ≤ mc ∧ sl + N ≤ ms)
    (kk : ∀ q : Nat, K (ce + 1) (sl + N) (pc + 3) L (.ref q :: st) (ws ++ [(q, .inr (ci, fs))])) : K ce sl pc L st ws := by
  obtain ⟨p, e, R, s, m, args, below, meth, c, A, Q, C, hin, hK⟩ := M
  rw [hK]
  intro H locs ls hP hD hS hL
  obtain ⟨hx, hb, hml, hown, hts, hG, hA, hlk, r1, r2, r3, r4⟩ := C
  exact va_new (D := g.2.1) (cl := vwCl) hx hb hts hw ty hty hown (hts _ h1) (hts _ h2) (hts _ h3) hG.2.1 hP hD hS hA hci hfs (by omega) (by omega) d (fun q H1 hP1 hD1 hS1 => (hK _ _ _ _ _ _).mp (kk q) H1 locs ls hP1 hD1 hS1 hL)
/-- a field of the object at the world's head -/
theorem i_putF (M : MkI g own cc nL fr lo mc ms true K) {ix N ci k a : Nat} {T : u_T} {ty0 : Nat → FieldType} {fs fs' : List Value} {rs : va_W} {v : Value} {ty : FieldType} (d : decode cc pc = .ok (.putfield ix, 3)) (hci : vwCl[ci]? = some (own, T, N)) (hw : ∀ w ∈ u_ws own T N, w ∈ WT) (hty : ∀ k, k < N → parseFieldDescriptor (T k).2.2.1 = some (ty0 k)) (hnm : ∀ a, a < N → ∀ b, b < N → a ≠ b → (T a).2.1 ≠ (T b).2.1) (hk : k < N) (hl : Cond.fieldLink own ix own (T k).2.1 (T k).2.2.1 ∈ WT) (how : (T k).1 = own) (hfin : (T k).2.2.2 = true) (hd : ty0 k = ty) (hn : narrow ty v = v) (hfit : fits ty v = true) (hlen : k < fs.length) (e9 : fs.set k v = fs')
    (kk : K ce sl (pc + 3) L st ((a, .inr (ci, fs')) :: rs)) : K ce sl pc L (v :: .ref a :: st) ((a, .inr (ci, fs)) :: rs) := by
  obtain ⟨p, e, R, s, m, args, below, meth, c, A, Q, C, hin, hK⟩ := M
  rw [hK] at kk ⊢
  intro H locs ls hP hD hS hL
  obtain ⟨hx, hb, hml, hown, hts, hG, hA, hlk, r1, r2, r3, r4⟩ := C
  subst e9
  subst hd
  exact va_putF (D := g.2.1) (ref := own) hx hb hts hw ty0 hty hnm hown hG.2.1 hP hD hS 0 rfl hci k hk (hts _ hl) (fun _ h => by rw [how] at h; exact h) hfin (hin rfl) how (hty k hk) hn hfit hlen d (fun H1 locs1 hP1 hD1 hS1 => kk H1 locs1 ls hP1 hD1 hS1 hL)
theorem i_put (M : MkI g own cc nL fr lo mc ms ini K) {ix N ci k a : Nat} {T : u_T} {ty0 : Nat → FieldType} {fs fs' : List Value} {rs : va_W} {v : Value} {ty : FieldType} (d : decode cc pc = .ok (.putfield ix, 3)) (hci : vwCl[ci]? = some (own, T, N)) (hw : ∀ w ∈ u_ws own T N, w ∈ WT) (hty : ∀ k, k < N → parseFieldDescriptor (T k).2.2.1 = some (ty0 k)) (hnm : ∀ a, a < N → ∀ b, b < N → a ≠ b → (T a).2.1 ≠ (T b).2.1) (hk : k < N) (hl : Cond.fieldLink own ix own (T k).2.1 (T k).2.2.1 ∈ WT) (how : (T k).1 = own) (hfin : (T k).2.2.2 = false) (hd : ty0 k = ty) (hn : narrow ty v = v) (hfit : fits ty v = true) (hlen : k < fs.length) (e9 : fs.set k v = fs')
    (kk : K ce sl (pc + 3) L st ((a, .inr (ci, fs')) :: rs)) : K ce sl pc L (v :: .ref a :: st) ((a, .inr (ci, fs)) :: rs) := by
  obtain ⟨p, e, R, s, m, args, below, meth, c, A, Q, C, hin, hK⟩ := M
  rw [hK] at kk ⊢
  intro H locs ls hP hD hS hL
  obtain ⟨hx, hb, hml, hown, hts, hG, hA, hlk, r1, r2, r3, r4⟩ := C
  subst e9
  subst hd
  exact va_put (D := g.2.1) (ref := own) hx hb hts hw ty0 hty hnm hown hG.2.1 hP hD hS 0 rfl hci k hk (hts _ hl) (fun _ h => by rw [how] at h; exact h) hfin (hty k hk) hn hfit hlen d (fun H1 locs1 hP1 hD1 hS1 => kk H1 locs1 ls hP1 hD1 hS1 hL)
theorem i_get (M : MkI g own cc nL fr lo mc ms ini K) {ix N ci k a : Nat} {T : u_T} {fs : List Value} {rs : va_W} {v : Value} (d : decode cc pc = .ok (.getfield ix, 3)) (hci : vwCl[ci]? = some (own, T, N)) (hw : ∀ w ∈ u_ws own T N, w ∈ WT) (hk : k < N) (hl : Cond.fieldLink own ix own (T k).2.1 (T k).2.2.1 ∈ WT) (how : (T k).1 = own) (hv : fs[k]? = some v)
    (kk : K ce sl (pc + 3) L (v :: st) ((a, .inr (ci, fs)) :: rs)) : K ce sl pc L (.ref a :: st) ((a, .inr (ci, fs)) :: rs) := by
  obtain ⟨p, e, R, s, m, args, below, meth, c, A, Q, C, hin, hK⟩ := M
  rw [hK] at kk ⊢
  intro H locs ls hP hD hS hL
  obtain ⟨hx, hb, hml, hown, hts, hG, hA, hlk, r1, r2, r3, r4⟩ := C
  exact va_get (D := g.2.1) (ref := own) hx hb hts hw hown hG.2.1 hP 0 rfl hci k hk (hts _ hl) (fun _ h => by rw [how] at h; exact h) hv d (kk H locs ls hP hD hS hL)
/-- a member into the array behind the world's head -/
theorem i_ast (M : MkI g own cc nL fr lo mc ms ini K) {x : Nat × va_E} {a v N : Nat} {vs : List Value} {f : Nat → Option Nat} {rs : va_W} {i : Int32} (qk : Nat) (d : decode cc pc = .ok (.aastore, 1)) (hv : rs[qk]? = some (v, .inr (1, vs))) (hin9 : vp_in i N)
    (kk : K ce sl (pc + 1) L st (x :: (a, .inl (g.2.2.2 1, N, .inr (.inr (.inr (.inr (va_up f i.toNatClampNeg (some v))))))) :: rs)) : K ce sl pc L (.ref v :: .int i :: .ref a :: st) (x :: (a, .inl (g.2.2.2 1, N, .inr (.inr (.inr (.inr f))))) :: rs) := by
  obtain ⟨p, e, R, s, m, args, below, meth, c, A, Q, C, hin, hK⟩ := M
  rw [hK] at kk ⊢
  intro H locs ls hP hD hS hL
  obtain ⟨hx, hb, hml, hown, hts, hG, hA, hlk, r1, r2, r3, r4⟩ := C
  exact va_astq (D := g.2.1) (cl := vwCl) (r := (RX1, TX1, 13)) hx hb hG.2.1 hP hD hS 1 1 (qk + 2) 1 rfl rfl hv rfl hin9 d (fun H1 locs1 hP1 hD1 hS1 => kk H1 locs1 ls hP1 hD1 hS1 hL)
theorem va_P.left {D : va_G} {cl : List vw_C} {w1 w2 : va_W} {H : Heap} (h : va_P D cl (w1 ++ w2) H) : va_P D cl w1 H := fun k q hk => h k q (by rw [List.getElem?_append_left (List.getElem?_eq_some_iff.mp hk).1]; exact hk)
theorem va_P.right {D : va_G} {cl : List vw_C} {w1 w2 : va_W} {H : Heap} (h : va_P D cl (w1 ++ w2) H) : va_P D cl w2 H := fun k q hk => h (w1.length + k) q (by rw [List.getElem?_append_right (by omega), Nat.add_sub_cancel_left]; exact hk)
theorem va_D.left {A : Nat → Prop} {w1 w2 : va_W} (h : va_D A (w1 ++ w2)) : va_D A w1 := by
  have key : ∀ (k : Nat) (q : Nat × va_E), w1[k]? = some q → (w1 ++ w2)[k]? = some q := fun k q hk => by rw [List.getElem?_append_left (List.getElem?_eq_some_iff.mp hk).1]; exact hk
  exact ⟨fun i j p q hi hj he => h.1 i j p q (key i p hi) (key j q hj) he, fun k q hk => h.2 k q (key k q hk)⟩
theorem join_last {D : va_G} {A : Nat → Prop} {ws w1 : va_W} {a : Nat} {e0 : va_E} {H H1 : Heap} (hP : va_P D vwCl (ws ++ [(a, e0)]) H) (hD : va_D A (ws ++ [(a, e0)])) (hA : ∀ q, H.size ≤ q → A q) (hk : ∀ q : Nat, q < H.size → ¬ AI a H.size q → H1[q]? = H[q]?) (hP1 : va_P D vwCl w1 H1) (hD1 : va_D (AI a H.size) w1) : va_P D vwCl (ws ++ w1) H1 ∧ va_D A (ws ++ w1) := by
  have hlast : (ws ++ [(a, e0)])[ws.length]? = some (a, e0) := by simp
  have apart : ∀ (k : Nat) (q : Nat × va_E), ws[k]? = some q → q.1 < H.size ∧ ¬ AI a H.size q.1 := fun k q hq => by
    have hl := (hP.left k q hq).lt
    refine ⟨hl, fun h => ?_⟩
    rcases h with h | h
    · have h9 := hD.1 k ws.length q (a, e0) (by rw [List.getElem?_append_left (List.getElem?_eq_some_iff.mp hq).1]; exact hq) hlast h
      have := (List.getElem?_eq_some_iff.mp hq).1
      omega
    · omega
  refine ⟨va_P.app (fun k q hq => (hP.left k q hq).kept (hk q.1 (apart k q hq).1 (apart k q hq).2)) hP1, va_D.app hD.left (hD1.weaken (fun k q _ h => ?_)) (fun i j x y hx hy hxy => ?_)⟩
  · rcases h with h | h
    · rw [h]; exact hD.2 _ _ hlast
    · exact hA _ h
  · exact (apart i x hx).2 (by rw [hxy]; exact hD1.2 j y hy)
theorem PrI_blind (g : Gl) (h0 sz ci : Nat) (fs : List Value) : FrameBlind (PrI g h0 sz ci fs) := fun a U f mk h => by
  obtain ⟨h1, h2, h3, h4⟩ := h
  exact ⟨h1, h2, GI.same (u := U) rfl h3, h4⟩
/-- a constructor's call over the newest cell -/
theorem i_init {α : Type} (M : MkI g own cc nL fr lo mc ms ini K) {y : MethodName} {ccy : ByteArray} {nLy fry loy mcy msy ix ci q : Nat} {fs : List Value} {W0 : Nat → α → va_W} (d : decode cc pc = .ok (.invokespecial ix, 3)) (hc : Ck own ix y ccy nLy none 0) (hin9 : y.name = "<init>" ∧ Cond.instanceMethod y ∈ WT) (hR : fry + 1 ≤ fr ∧ 8 + (nLy + 11) + loy ≤ lo ∧ ce + mcy ≤ mc ∧ sl + msy ≤ ms) (hcat : (st.map fun v => v.category).sum ≤ 8) (hM : MetI g y ccy nLy fry loy mcy msy ci fs W0)
    (kk : ∀ u : α, K (ce + mcy) (sl + msy) (pc + 3) L st (ws ++ W0 q u)) : K ce sl pc L (.ref q :: st) (ws ++ [(q, .inr (ci, fs))]) := by
  obtain ⟨p, e, R, s, m, args, below, meth, c, A, Q, C, hin, hK⟩ := M
  rw [hK]
  intro H locs ls hP hD hS hL
  obtain ⟨hx, hb, hml, hown, hts, hG, hA, hlk, r1, r2, r3, r4⟩ := C
  obtain ⟨hk1, hk2, hk3, hk4, hk5⟩ := hc
  have hAH : ∀ q, H.size ≤ q → A q := fun q h => hA q (Nat.le_trans hS.1 h)
  have hAq : A q := hD.2 ws.length (q, .inr (ci, fs)) (by simp)
  have hsub : ∀ x, AI q H.size x → A x := fun x h => by
    rcases h with h | h
    · rw [h]; exact hAq
    · exact hAH x h
  have hpre : PreS s H (PrI g q H.size ci fs) [.ref q] := ⟨PrI_blind g q H.size ci fs, fun U hU hW => ⟨rfl, by rw [hU], GI.warm hW hG, by rw [hU]; exact hP.right⟩⟩
  have hfix : CallFix p m c cc nL s args WT own := ⟨hx, hb, hml, hown, hts⟩
  have hrun : va_Run p g.1 e R s m args below meth c H locs ce sl mcy msy (F0 m pc ls (.ref q :: st)) st (QrI g q H.size (W0 q) #[.ref q]) (AI q H.size) := by
    rcases hk1 with hk1 | ⟨host, hk1⟩
    · exact va_runI (As := []) (rest := st) hfix (hM q H.size) (cwI 0 hts (wt_code hk3) rfl rfl rfl (hts _ hk2) (hts _ hk1) (hts _ hin9.2) hin9.1 ⟨hk4.1, hk4.2, hk5⟩ ⟨by show fry + 1 ≤ _; omega, by show 8 + (nLy + 11) + loy ≤ _; omega⟩) hpre rfl rfl hL.1 rfl (lv_room hcat) d ⟨by omega, by omega⟩
    · exact va_runIN (As := []) (rest := st) hfix (hM q H.size) ⟨va_cnB 0 hts (wt_code hk3) rfl rfl rfl (hG.1 _ hk1) (hts _ hk2) ⟨hk4.1, hk4.2, hk5⟩ ⟨by show fry + 1 ≤ _; omega, by show 8 + (nLy + 11) + loy ≤ _; omega⟩, hin9.1, hts _ hin9.2⟩ hpre rfl rfl hL.1 rfl (lv_room hcat) d ⟨by omega, by omega⟩
  refine va_callv hrun hS (fun x _ h => hsub x h) hsub (fun u t H1 locs1 ht hvm hw hB hz1 hk9 hS1 => ?_)
  obtain ⟨hP1, hD1⟩ := hB
  rw [ht] at hP1
  obtain ⟨hP2, hD2⟩ := join_last hP hD hAH hk9 hP1 hD1
  exact (hK _ _ _ _ _ _).mp (kk u) H1 locs1 ls hP2 hD2 hS1 hL
/-- a constructor -/
def MachI {α : Type} (g : Gl) (own : String) (cc : ByteArray) (nL fr lo mc ms h0 : Nat) (Wu : α → va_W) (K : KTI) : Prop :=
  ∃ (p : Program) (e : Env) (R : Room) (s : State) (m : MethodId) (args : Array Value) (below : List Frame) (meth : Method) (c : Code), CtI g own cc nL fr lo mc ms p R s m args meth c (AI h0 s.heap.size) ∧ meth.name = "<init>" ∧ meth.sig.returnType = none ∧ ∀ ce sl pc L st ws, K ce sl pc L st ws ↔ WkI g nL p e R s m args below meth c (AI h0 s.heap.size) (MQ below (QrI g h0 s.heap.size Wu) args s mc ms (AI h0 s.heap.size)) ce sl pc L st ws
theorem MachI.mk {α : Type} {h0 : Nat} {Wu : α → va_W} (M : MachI g own cc nL fr lo mc ms h0 Wu K) : MkI g own cc nL fr lo mc ms true K := by
  obtain ⟨p, e, R, s, m, args, below, meth, c, C, hin, hr, hK⟩ := M
  exact ⟨p, e, R, s, m, args, below, meth, c, _, _, C, fun _ => hin, hK⟩
theorem i_ret {α : Type} {h0 : Nat} {Wu : α → va_W} (M : MachI g own cc nL fr lo mc ms h0 Wu K) (u : α) (d : decode cc pc = .ok (.return_, 1)) (hw : ws = Wu u) (hc : ce ≤ mc ∧ sl ≤ ms) : K ce sl pc L [] ws := by
  obtain ⟨p, e, R, s, m, args, below, meth, c, C, hin, hr, hK⟩ := M
  rw [hK]
  intro H locs ls hP hD hS hL
  obtain ⟨hx, hb, hml, hown, hts, hG, hA, hlk, r1, r2, r3, r4⟩ := C
  subst hw
  refine W.widen hc.1 hc.2 ?_
  exact W.vret hx hb hr (fun t ht hW => ⟨⟨u, rfl, trivial, by rw [ht]; exact hP, hD⟩, hS.F ht⟩) hS.2.2 d hlk
theorem enterI {α : Type} {y : MethodName} {ci : Nat} {fs : List Value} {W0 : Nat → α → va_W} (hy : plainName y.cls = true) (hyn : y.name = "<init>") (hn : 1 ≤ nL) (h : ∀ (h0 : Nat) (K : KTI), MachI g y.cls cc nL fr lo mc ms h0 (W0 h0) K → K 0 0 0 [(0, .ref h0)] [] [(h0, .inr (ci, fs))]) : MetI g y cc nL fr lo mc ms ci fs W0 := by
  intro h0 sz
  refine Met.ofW (cc := cc) (maxL := nL) (ret := none) hy rfl ?_
  intro p e s m args below meth c s₁ B hml hv
  obtain ⟨rfl, hsz, hG, hP⟩ := hv
  subst hsz
  have hts0 := atoms_spec (ws := Cond.code y cc nL none :: WT) B.pre
  have C : CtI g y.cls cc nL fr lo mc ms p (headSpec (Cond.code y cc nL none :: WT) ({ frames := fr, cells := mc, slots := ms, locals := lo })).room s m ([.ref h0] : List Value).toArray meth c (AI h0 s.heap.size) :=
    ⟨B.exec, B.bytes, hml, findClass_of_methodNamed B.named, fun w hw => hts0 w (List.mem_cons_of_mem _ hw), hG, fun q hq => Or.inr hq, B.notSynchronized, Nat.le_refl _, Nat.le_refl _, Nat.le_refl _, Nat.le_refl _⟩
  have hD : va_D (AI h0 s.heap.size) [(h0, .inr (ci, fs))] := by
    refine ⟨fun i j p q hi hj _ => ?_, fun k q hk => ?_⟩
    · have h1 := (List.getElem?_eq_some_iff.mp hi).1
      have h2 := (List.getElem?_eq_some_iff.mp hj).1
      simp only [List.length_singleton] at h1 h2
      omega
    · have h1 := (List.getElem?_eq_some_iff.mp hk).1
      simp only [List.length_singleton] at h1
      rw [show k = 0 by omega] at hk
      cases hk
      exact Or.inl rfl
  have k := h h0 (WkI g nL p e (headSpec (Cond.code y cc nL none :: WT) ({ frames := fr, cells := mc, slots := ms, locals := lo })).room s m ([.ref h0] : List Value).toArray below meth c (AI h0 s.heap.size) (MQ below (QrI g h0 s.heap.size (W0 h0)) ([.ref h0] : List Value).toArray s mc ms (AI h0 s.heap.size)))
    ⟨p, e, _, s, m, _, below, meth, c, C, (name_of_methodNamed B.named B.method).1.trans hyn, B.returns, fun _ _ _ _ _ _ => Iff.rfl⟩
  have hl := lv_entry ([.ref h0] : List Value) (n := nL) hn
  rw [lg_entry_eq]
  exact k s.heap [] _ hP hD va_S.rf hl
end KI
