/-! ===== contracts, calls, ends, throws ===== -/
section KC
def Qr (g : Gl) (Ret : Option AV → St → Prop) (A : Nat → Prop) : Array Value → State → Outcome → State → Prop := fun _ st oc t => (∃ (v : Option AV) (S' : St), oc = .returned (v.map (cv g)) ∧ Ret v S' ∧ Wd g S' t.heap) ∧ va_F A st t
def XCr (g : Gl) (Thr : String → St → Prop) (A : Nat → Prop) : String → State → State → Prop := fun E st t => ∃ S' : St, Thr E S' ∧ Wd g S' t.heap ∧ va_F A st t
def Pr (g : Gl) (av : List AV) (S : St) (sz : Nat) : Array Value → State → Prop := va_Pc (av.map (cv g)) (fun U => U.heap.size = sz ∧ GV g U ∧ Wd g S U.heap ∧ Zs (Ag g sz) U U.heap)
/-- the contract of a method at these arguments over this world: it ends so that Ret holds, or throws so that Thr holds; at most N throws -/
def Cn (g : Gl) (y : MethodName) (cc : ByteArray) (nL : Nat) (ret : Option FieldType) (fr lo N : Nat) (av : List AV) (S : St) (Ret : Option AV → St → Prop) (Thr : String → St → Prop) : Prop :=
  ∀ sz : Nat, vx_Met g.1 y (Cond.code y cc nL ret :: WT) ({ frames := fr, cells := N, slots := 6 * N, locals := lo }) (Pr g av S sz) (Qr g Ret (Ag g sz)) (XCr g Thr (Ag g sz)) N (6 * N) (Ag g sz)
def CnH (g : Gl) (y : MethodName) (cc : ByteArray) (nL : Nat) (ret : Option FieldType) (hh : List (Nat × Nat × Nat × Nat)) (fr lo N : Nat) (av : List AV) (S : St) (Ret : Option AV → St → Prop) (Thr : String → St → Prop) : Prop :=
  ∀ sz : Nat, vx_Met g.1 y (Cond.codeWith y cc nL ret hh :: WT) ({ frames := fr, cells := N, slots := 6 * N, locals := lo }) (Pr g av S sz) (Qr g Ret (Ag g sz)) (XCr g Thr (Ag g sz)) N (6 * N) (Ag g sz)
theorem Pr_blind (g : Gl) (av : List AV) (S : St) (sz : Nat) : FrameBlind (Pr g av S sz) := fun a U f mk h => by
  obtain ⟨h1, h2, h3, h4, h5⟩ := h
  have hal : U.vm.Alike (U.calling f mk a).vm := Vm.Alike.refl U.vm
  exact ⟨h1, h2, GV.same (u := U) rfl h3, h4, vx_Zq.moved hal h5.1, vx_Zq.moved hal h5.2⟩
theorem Ag_in {g : Gl} {A : Nat → Prop} {sz0 sz : Nat} (h1 : ∀ q, q ∈ prs → A (g.2.2.1 q.1 q.2)) (h2 : ∀ q, sz0 ≤ q → A q) (h : sz0 ≤ sz) : ∀ q, Ag g sz q → A q := fun q hq => by
  rcases hq with ⟨p, hp, rfl⟩ | hq
  · exact h1 p hp
  · exact h2 q (Nat.le_trans h hq)
/-- a method that may throw, its locals at entry, what is left for its end -/
def Mach (g : Gl) (own : String) (cc : ByteArray) (nL : Nat) (ret : Option FieldType) (fr lo N : Nat) (Ret : Option AV → St → Prop) (Thr : String → St → Prop) (K : KT) : Prop :=
  ∃ (p : Program) (e : Env) (R : Room) (s : State) (m : MethodId) (args : Array Value) (below : List Frame) (meth : Method) (c : Code) (A : Nat → Prop), Ctx g own cc nL fr lo N p R s m args meth c A 0 0 ∧ (∀ x ∈ c.exceptionTable.toList, False) ∧ meth.sig.returnType = ret ∧
    ∀ n pc L st S, K n pc L st S ↔ Wk g nL N p e R s m args below meth c A 0 0 (vx_MQ below (Qr g Ret A) (XCr g Thr A) args s N (6 * N) A) n pc L st S
variable {g : Gl} {own : String} {cc : ByteArray} {nL fr lo N : Nat} {ret : Option FieldType} {Ret : Option AV → St → Prop} {Thr : String → St → Prop} {K : KT} {n pc : Nat} {L : List (Option AV)} {st : List AV} {S : St}
theorem Mach.mk (M : Mach g own cc nL ret fr lo N Ret Thr K) : Mk g own cc nL fr lo N K := by
  obtain ⟨p, e, R, s, m, args, below, meth, c, A, C, _, _, hK⟩ := M
  exact ⟨p, e, R, s, m, args, below, meth, c, A, 0, 0, _, C, hK⟩
theorem Mach.ends (M : Mach g own cc nL ret fr lo N Ret Thr K) {v : Option AV} (hv : Ret v S)
    (h : ∀ (p : Program) (e : Env) (R : Room) (s : State) (m : MethodId) (args : Array Value) (below : List Frame) (meth : Method) (c : Code) (A : Nat → Prop), p.tables.exec = Jvm.exec → c.code = cc → meth.sig.returnType = ret → meth.locks = false → ∀ (H : Heap) (locs : List Loc) (ls : Array Slot) (Qc : Array Value → State → Outcome → State → Prop),
      (∀ t : State, t.heap = H → s.WarmedH t.vm → Qc args s (.returned (v.map (cv g))) t) → (∀ q ∈ locs, A q.base) → W p g.1 e R s m args below meth c H locs N (6 * N) (MQ below Qc args s N (6 * N) A) (F0 m pc ls (st.map (cv g)))) : K n pc L st S := by
  obtain ⟨p, e, R, s, m, args, below, meth, c, A, C, _, hr, hK⟩ := M
  rw [hK]
  intro hn H locs ls hW hS hL
  refine W.widen (k := N) (n := 6 * N) (by omega) (by omega) (vx_ret (h p e R s m args below meth c A C.1 C.2.1 hr C.2.2.2.2.2.2.2.2.2.1 H locs ls _ (fun t ht _ => ⟨⟨v, S, rfl, hv, by rw [ht]; exact hW⟩, hS.F ht⟩) hS.2.2))
theorem r_iret (M : Mach g own cc nL (some .int) fr lo N Ret Thr K) {x : Int} (d : decode cc pc = .ok (.ireturn, 1)) (hv : Ret (some (vI x)) S) : K n pc L [vI x] S :=
  M.ends hv (fun p e R s m args below meth c A hx hb hr hlo H locs ls Qc hq hf => W.iret hx hb hr hq hf d hlo)
theorem r_zret (M : Mach g own cc nL (some .boolean) fr lo N Ret Thr K) {x : Int} (d : decode cc pc = .ok (.ireturn, 1)) (h01 : x = 0 ∨ x = 1) (hv : Ret (some (vI x)) S) : K n pc L [vI x] S :=
  M.ends hv (fun p e R s m args below meth c A hx hb hr hlo H locs ls Qc hq hf => W.zret hx hb hr (by rcases h01 with rfl | rfl <;> rfl) hq hf d hlo)
theorem r_vret (M : Mach g own cc nL none fr lo N Ret Thr K) (d : decode cc pc = .ok (.return_, 1)) (hv : Ret none S) : K n pc L [] S :=
  M.ends hv (fun p e R s m args below meth c A hx hb hr hlo H locs ls Qc hq hf => W.vret hx hb hr hq hf d hlo)
theorem r_aret {C9 : String} (M : Mach g own cc nL (some (.object C9)) fr lo N Ret Thr K) {t i : Nat} (d : decode cc pc = .ok (.areturn, 1)) (hv : Ret (some (vR t i)) S) : K n pc L [vR t i] S :=
  M.ends hv (fun p e R s m args below meth c A hx hb hr hlo H locs ls Qc hq hf => W.aret hx hb hr (Or.inl ⟨_, rfl⟩) (Or.inr ⟨_, rfl⟩) hq hf d hlo)
def exN : List String := ["java/lang/RuntimeException", "java/lang/Exception"]
/-- what throw new E("..") needs of the tables -/
def Tk (own : String) (ik is ic : Nat) (E : String) : Prop := (∃ tx, (own, is, tx) ∈ strs) ∧ Bundle.fit E = true ∧ Cond.classLink own ik E ∈ WT ∧ Cond.initialized E ∈ WT ∧ (∀ w ∈ (vx_atS own ic E exN).filter goodWord, w ∈ WT) ∧ (∀ w ∈ (vx_atS own ic E exN).filter (fun w => !goodWord w), w ∈ NW) ∧ (∀ w ∈ Cond.classLink own ik E :: Cond.initialized E :: vx_atS own ic E exN, vx_ot w = true)
theorem nw_before {g : Gl} {s : State} {args : Array Value} (h : GV g s) {w : Cond} (hw : w ∈ NW) : w.before args s = true := va_Nw.use (nest_tab (List.mem_filter.mp hw).2) (h.1 w hw)
theorem Zs.kept {A : Nat → Prop} {U : State} {H H1 : Heap} (h : Zs A U H) (hq : ∀ a : Nat, a < H.size → ¬ A a → H1[a]? = H[a]?) : Zs A U H1 := ⟨vx_Zq.kept h.1 hq, vx_Zq.kept h.2 hq⟩
theorem Zs.narrow {A B : Nat → Prop} {U : State} {H : Heap} (h : Zs A U H) (hAB : ∀ q, B q → A q) : Zs B U H := ⟨vx_Zq.narrow h.1 hAB, vx_Zq.narrow h.2 hAB⟩
theorem Zs.moved {A : Nat → Prop} {u U : State} {H : Heap} (hvm : u.vm.Alike U.vm) (h : Zs A u H) : Zs A U H := ⟨vx_Zq.moved hvm h.1, vx_Zq.moved hvm h.2⟩
theorem wd_keep {g : Gl} {S : St} {H H1 : Heap} (h : Wd g S H) (hq : ∀ q : Nat, q < H.size → H1[q]? = H[q]?) : Wd g S H1 := fun k q hk => (h k q hk).kept (hq _ (h k q hk).lt)
theorem r_throw (M : Mach g own cc nL ret fr lo N Ret Thr K) {ik is ic : Nat} {E : String} (hT : Tk own ik is ic E)
    (d0 : decode cc pc = .ok (.new ik, 3)) (d3 : decode cc (pc + 3) = .ok (.dup, 1)) (d4 : decode cc (pc + 4) = .ok (.ldc is, 2)) (d6 : decode cc (pc + 6) = .ok (.invokespecial ic, 3)) (d9 : decode cc (pc + 9) = .ok (.athrow, 1))
    (hR : 6 ≤ fr ∧ 90 ≤ lo ∧ n + 1 ≤ N) (hcat : (st.map fun v => (cv g v).category).sum ≤ 8) (hE : Thr E S) : K n pc L st S := by
  obtain ⟨p, e, R, s, m, args, below, meth, c, A, C, hx, hr, hK⟩ := M
  rw [hK]
  intro hn H locs ls hW hS hL
  obtain ⟨⟨tx, htx⟩, hfit, h1, h2, h3, h4, h5⟩ := hT
  obtain ⟨sa, hsa⟩ := C.2.2.2.2.2.1.2.2.1 _ htx
  have hR1 := C.2.2.2.2.2.2.2.2.2.2
  have hc2 : ((st.map (cv g)).map fun v => v.category).sum ≤ 8 := by rw [List.map_map]; exact hcat
  refine vx_throwS C.1 C.2.1 C.2.2.2.2.2.1.2.2.2.2.2 C.2.2.2.1 hfit (names := exN) (by decide) (C.2.2.2.2.1 _ h1) (C.2.2.2.2.1 _ h2) hsa (vx_hat (B := NW) (fun w hw => C.2.2.2.2.1 _ (h3 w hw)) h4 (fun w hw => nw_before C.2.2.2.2.2.1 hw)) h5
    C.2.2.2.2.2.2.2.2.1.1 C.2.2.2.2.2.2.2.2.1.2 hS (by rw [C.2.2.1]; exact hL.1) d0 d3 d4 d6 d9 (fun x hxx => (hx x hxx).elim) (by show 2 + 3 < _; omega) (by show _ + (13 * (2 + 1) + 43) ≤ _; omega) (by omega) (by omega) C.2.2.2.2.2.2.2.2.2.1
    (fun t hal hsz hk => ⟨S, hE, wd_keep hW hk, ⟨Nat.le_trans hS.1 hsz, fun q hq hA => by rw [hk q (Nat.lt_of_lt_of_le hq hS.1)]; exact hS.2.1 q hq hA⟩⟩) hS.2.2 (by omega) (by omega)
/-- behind a call -/
theorem run_core {p : Program} {e : Env} {R : Room} {s : State} {m : MethodId} {args : Array Value} {below : List Frame} {meth : Method} {c : Code} {A : Nat → Prop} {c0 s0 Ny : Nat} {Q : State → Prop} (C : Ctx g own cc nL fr lo N p R s m args meth c A c0 s0) {H : Heap} {locs : List Loc} {ls : Array Slot} {st0 rst : List Value} {a : Array Value} (hS : va_S A s.heap H locs)
    (hr : vx_Run p g.1 e R s m args below meth c H locs (c0 + n) (s0 + 6 * n) Ny (6 * Ny) (F0 m pc ls st0) rst (Qr g Ret (Ag g H.size) a) (XCr g Thr (Ag g H.size)) (Ag g H.size))
    (kx : ∀ (E : String) (ce : Cell) (q9 : Addr) (S' : St) (H1 : Heap) (locs1 : List Loc), Thr E S' → Wd g S' H1 → va_S A s.heap H1 locs1 → H1[q9]? = some ce → ce.vm = .none → s.vm.findClass E = some ce.cls → vx_W p g.1 e R s m args below meth c H1 locs1 (c0 + (n + Ny)) (s0 + 6 * (n + Ny)) Q (F0 m pc ls rst) q9)
    (kk : ∀ (v : Option AV) (S' : St) (H1 : Heap) (locs1 : List Loc), Ret v S' → Wd g S' H1 → va_S A s.heap H1 locs1 → W p g.1 e R s m args below meth c H1 locs1 (c0 + (n + Ny)) (s0 + 6 * (n + Ny)) Q (F0 m (pc + 3) ls ((v.map (cv g)).toList ++ rst))) : W p g.1 e R s m args below meth c H locs (c0 + n) (s0 + 6 * n) Q (F0 m pc ls st0) := by
  have e1' : c0 + n + Ny = c0 + (n + Ny) := by omega
  have e2' : s0 + 6 * n + 6 * Ny = s0 + 6 * (n + Ny) := by omega
  have hin := Ag_in C.2.2.2.2.2.2.1 C.2.2.2.2.2.2.2.1 hS.1
  intro T hT X
  rcases hr T hT X with ⟨v, st₀, t, T', L9, h0, X', hL, e1, e2, ⟨⟨v9, S', hv, hp, hb⟩, hF⟩, st9⟩ | ⟨q, st₀, t, T', L9, E, ce, h0, X', hL, e1, e2, ⟨S', hp, hb, hF⟩, hce, hcv, hcl, st9⟩
  · obtain ⟨k1, k2, k3⟩ := vx_keep h0 e1 hS (fun q _ h => hin q h) hin hL hF
    rw [e1', e2'] at X'
    obtain ⟨t2, a1, b1⟩ := kk v9 S' T'.heap (locs ++ L9) hp (by rw [e1]; exact hb) k3 T' rfl X'
    cases hv
    exact ⟨t2, st9 t2 a1, b1⟩
  · obtain ⟨k1, k2, k3⟩ := vx_keep h0 e1 hS (fun q _ h => hin q h) hin hL hF
    rw [e1', e2'] at X'
    obtain ⟨t2, a1, b1⟩ := kx E ce q S' T'.heap (locs ++ L9) hp (by rw [e1]; exact hb) k3 (by rw [e1]; exact hce) hcv hcl T' rfl X'
    exact ⟨t2, st9.trans a1, b1⟩
def Ck (own : String) (ix : Nat) (y : MethodName) (cc : ByteArray) (nL : Nat) (ret : Option FieldType) (na : Nat) : Prop := (Cond.methodLink own ix y ∈ WT ∨ ∃ host, Cond.methodLinkNest own ix y host ∈ NW) ∧ Cond.initialized y.cls ∈ WT ∧ Cond.code y cc nL ret ∈ WT ∧ (y.cls ≠ "java/lang/invoke/MethodHandle" ∧ y.cls ≠ "java/lang/invoke/VarHandle") ∧ (parseMethodDescriptor y.desc).map (fun d => d.parameters.length) = some na
def Vk (y : MethodName) : Prop := Cond.instanceMethod y ∈ WT ∧ Cond.selects y.cls y y ∈ WT
theorem wt_code {y : MethodName} {cc : ByteArray} {nL : Nat} {ret : Option FieldType} (h : Cond.code y cc nL ret ∈ WT) : GoodIn WT (Cond.code y cc nL ret :: WT) := wt_good (fun w hw => (List.mem_cons.mp hw).elim (fun q => q ▸ h) id)
/-- what a call finds at its start -/
theorem pre_of {p : Program} {R : Room} {s : State} {m : MethodId} {args : Array Value} {meth : Method} {c : Code} {A : Nat → Prop} {c0 s0 : Nat} (C : Ctx g own cc nL fr lo N p R s m args meth c A c0 s0) {H : Heap} {locs : List Loc} (hW : Wd g S H) (hS : va_S A s.heap H locs) (av : List AV) :
    ∀ U : State, U.heap = H → s.WarmedH U.vm → Pr g av S H.size (av.map (cv g)).toArray U := fun U hU hWU =>
  ⟨rfl, by rw [hU], GV.warm hWU C.2.2.2.2.2.1, by rw [hU]; exact hW, by
    rw [hU]
    exact Zs.moved hWU.alike (Zs.narrow (Zs.kept C.2.2.2.2.2.2.2.2.1 hS.2.1) (Ag_in C.2.2.2.2.2.2.1 C.2.2.2.2.2.2.2.1 hS.1))⟩
theorem runV_of {p : Program} {e : Env} {R : Room} {s : State} {m : MethodId} {args : Array Value} {below : List Frame} {meth : Method} {c : Code} {A : Nat → Prop} {c0 s0 : Nat} (C : Ctx g own cc nL fr lo N p R s m args meth c A c0 s0) {H : Heap} {locs : List Loc} {ls : Array Slot} (hW : Wd g S H) (hS : va_S A s.heap H locs) (hL : lvs g ls nL L)
    {y : MethodName} {ccy : ByteArray} {nLy fry loy Ny ix na t i : Nat} {rety : Option FieldType} {As rst : List AV} (d : decode cc pc = .ok (.invokevirtual ix, 3)) (hc : Ck own ix y ccy nLy rety na) (hv : Vk y) (hna : As.length = na) (hR : fry + 1 ≤ fr ∧ 8 + (nLy + 11) + loy ≤ lo ∧ n + Ny ≤ N)
    (ht : kd t < 5 ∧ t < 13 ∧ (vwCl[kd t]?).map (fun q => q.1) = some y.cls) (hi : i < ctn t) (hcat : (rst.map fun v => (cv g v).category).sum ≤ 8) (hC : Cn g y ccy nLy rety fry loy Ny (vR t i :: As) S Ret Thr) :
    vx_Run p g.1 e R s m args below meth c H locs (c0 + n) (s0 + 6 * n) Ny (6 * Ny) (F0 m pc ls ((As.reverse ++ vR t i :: rst).map (cv g))) (rst.map (cv g)) (Qr g Ret (Ag g H.size) ((vR t i :: As).map (cv g)).toArray) (XCr g Thr (Ag g H.size)) (Ag g H.size) := by
  obtain ⟨hk1, hk2, hk3, hk4, hk5⟩ := hc
  obtain ⟨q, hq, he⟩ := wl_get g S ht.2.1 hi
  rw [en_obj g i _ ht.1] at he
  obtain ⟨qc, hqc, hqn⟩ := Option.map_eq_some_iff.mp ht.2.2
  have hrecv := va_recv C.2.2.2.2.2.1.2.1 hW hqc he
  rw [hqn] at hrecv
  have hR1 := C.2.2.2.2.2.2.2.2.2.2
  have hst : ((As.reverse ++ vR t i :: rst).map (cv g)) = (As.map (cv g)).reverse ++ .ref (g.2.2.1 t i) :: rst.map (cv g) := by simp [cv]
  have hcat2 : ((rst.map (cv g)).map fun v => v.category).sum ≤ 8 := by rw [List.map_map]; exact hcat
  have hfix : CallFix p m c cc nL s args WT own := ⟨C.1, C.2.1, C.2.2.1, C.2.2.2.1, C.2.2.2.2.1⟩
  rcases hk1 with hk1 | ⟨host, hk1⟩
  · exact vx_runV (C := y.cls) (As := As.map (cv g)) hfix (hC H.size) (cwV na C.2.2.2.2.1 (wt_good (fun w hw => by
        rcases List.mem_append.mp hw with hw | hw
        · simp only [List.mem_cons, List.not_mem_nil, or_false] at hw
          rcases hw with rfl | rfl | rfl | rfl
          · exact hk1
          · exact hv.1
          · exact hv.2
          · exact hk2
        · exact (wt_code hk3 w hw).1)) rfl rfl rfl ⟨rfl, hk4.1, hk4.2, hk5⟩ ⟨by show fry + 1 ≤ _; omega, by show 8 + (nLy + 11) + loy ≤ _; omega⟩)
      ⟨Pr_blind g _ S _, hrecv, pre_of C hW hS (vR t i :: As)⟩ rfl (by rw [List.length_map]; exact hna) (hL.1) (by rw [hst]) (lv_room hcat2) d ⟨by omega, by omega⟩
  · exact vx_runVN (C := y.cls) (As := As.map (cv g)) hfix (hC H.size) ⟨va_cnB na C.2.2.2.2.1 (wt_code hk3) rfl rfl rfl (C.2.2.2.2.2.1.1 _ hk1) (C.2.2.2.2.1 _ hk2) ⟨hk4.1, hk4.2, hk5⟩ ⟨by show fry + 1 ≤ _; omega, by show 8 + (nLy + 11) + loy ≤ _; omega⟩, C.2.2.2.2.1 _ hv.1, C.2.2.2.2.1 _ hv.2⟩
      ⟨Pr_blind g _ S _, hrecv, pre_of C hW hS (vR t i :: As)⟩ rfl (by rw [List.length_map]; exact hna) (hL.1) (by rw [hst]) (lv_room hcat2) d ⟨by omega, by omega⟩
theorem runS_of {p : Program} {e : Env} {R : Room} {s : State} {m : MethodId} {args : Array Value} {below : List Frame} {meth : Method} {c : Code} {A : Nat → Prop} {c0 s0 : Nat} (C : Ctx g own cc nL fr lo N p R s m args meth c A c0 s0) {H : Heap} {locs : List Loc} {ls : Array Slot} (hW : Wd g S H) (hS : va_S A s.heap H locs) (hL : lvs g ls nL L)
    {y : MethodName} {ccy : ByteArray} {nLy fry loy Ny ix na : Nat} {rety : Option FieldType} {As rst : List AV} (d : decode cc pc = .ok (.invokestatic ix, 3)) (hl : Cond.methodLink own ix y ∈ WT) (hst9 : Cond.static y ∈ WT) (how : y.cls = own) (hc : Ck own ix y ccy nLy rety na) (hna : As.length = na) (hR : fry + 1 ≤ fr ∧ 8 + (nLy + 11) + loy ≤ lo ∧ n + Ny ≤ N)
    (hcat : (rst.map fun v => (cv g v).category).sum ≤ 8) (hC : Cn g y ccy nLy rety fry loy Ny As S Ret Thr) :
    vx_Run p g.1 e R s m args below meth c H locs (c0 + n) (s0 + 6 * n) Ny (6 * Ny) (F0 m pc ls ((As.reverse ++ rst).map (cv g))) (rst.map (cv g)) (Qr g Ret (Ag g H.size) (As.map (cv g)).toArray) (XCr g Thr (Ag g H.size)) (Ag g H.size) := by
  obtain ⟨hk1, hk2, hk3, hk4, hk5⟩ := hc
  have hR1 := C.2.2.2.2.2.2.2.2.2.2
  have hst : ((As.reverse ++ rst).map (cv g)) = (As.map (cv g)).reverse ++ rst.map (cv g) := by simp
  have hcat2 : ((rst.map (cv g)).map fun v => v.category).sum ≤ 8 := by rw [List.map_map]; exact hcat
  have hfix : CallFix p m c cc nL s args WT own := ⟨C.1, C.2.1, C.2.2.1, C.2.2.2.1, C.2.2.2.2.1⟩
  exact vx_runS (As := As.map (cv g)) hfix (hC H.size) (cwS na C.2.2.2.2.1 (wt_good (fun w hw => by
        rcases List.mem_append.mp hw with hw | hw
        · simp only [List.mem_cons, List.not_mem_nil, or_false] at hw
          rcases hw with rfl | rfl | rfl
          · exact hl
          · exact hst9
          · rw [how] at hk2; exact hk2
        · exact (wt_code hk3 w hw).1)) rfl rfl rfl ⟨how, hk4.1, hk4.2, hk5⟩ ⟨by show fry + 1 ≤ _; omega, by show 8 + (nLy + 11) + loy ≤ _; omega⟩)
      ⟨Pr_blind g _ S _, pre_of C hW hS As⟩ rfl (by rw [List.length_map]; exact hna) (hL.1) (by rw [hst]) (lv_room hcat2) d ⟨by omega, by omega⟩
/-- what stands on the stack behind a call -/
def pv (v : Option AV) (r : List AV) : List AV := match v with
  | some x => x :: r
  | none => r
theorem pv_map (g : Gl) (v : Option AV) (r : List AV) : (v.map (cv g)).toList ++ r.map (cv g) = (pv v r).map (cv g) := by
  cases v <;> rfl
/-- an uncaught throw leaves the method -/
theorem Mach.leave (M : Mach g own cc nL ret fr lo N Ret Thr K) {T9 : Prop} (h : ∀ (p : Program) (e : Env) (R : Room) (s : State) (m : MethodId) (args : Array Value) (below : List Frame) (meth : Method) (c : Code) (A : Nat → Prop) (Q : State → Prop), Ctx g own cc nL fr lo N p R s m args meth c A 0 0 → (∀ n pc L st S, K n pc L st S ↔ Wk g nL N p e R s m args below meth c A 0 0 Q n pc L st S) →
    (∀ (n pc : Nat) (ls : Array Slot) (rst : List Value) (E : String) (ce : Cell) (q9 : Addr) (S' : St) (H1 : Heap) (locs1 : List Loc), n ≤ N → Thr E S' → Wd g S' H1 → va_S A s.heap H1 locs1 → H1[q9]? = some ce → ce.vm = .none → s.vm.findClass E = some ce.cls → vx_W p g.1 e R s m args below meth c H1 locs1 (0 + n) (0 + 6 * n) Q (F0 m pc ls rst) q9) → T9) : T9 := by
  obtain ⟨p, e, R, s, m, args, below, meth, c, A, C, hx, hr, hK⟩ := M
  refine h p e R s m args below meth c A _ C hK (fun n pc ls rst E ce q9 S' H1 locs1 hn hE hW hS hce hcv hcl => ?_)
  exact vx_out (fun x hxx => (hx x hxx).elim) C.2.2.2.2.2.2.2.2.2.1 hce hcv hcl (fun t ht hal => ⟨S', hE, by rw [ht]; exact hW, hS.F ht⟩) hS.2.2 (by omega) (by omega)
theorem r_callV (M : Mach g own cc nL ret fr lo N Ret Thr K) {y : MethodName} {ccy : ByteArray} {nLy fry loy Ny ix na t i : Nat} {rety : Option FieldType} {As rst : List AV} (d : decode cc pc = .ok (.invokevirtual ix, 3)) (hc : Ck own ix y ccy nLy rety na) (hv : Vk y) (hna : As.length = na) (hR : fry + 1 ≤ fr ∧ 8 + (nLy + 11) + loy ≤ lo ∧ n + Ny ≤ N)
    (ht : kd t < 5 ∧ t < 13 ∧ (vwCl[kd t]?).map (fun q => q.1) = some y.cls) (hi : i < ctn t) (hcat : (rst.map fun v => (cv g v).category).sum ≤ 8) (hC : Cn g y ccy nLy rety fry loy Ny (vR t i :: As) S (fun v S' => K (n + Ny) (pc + 3) L (pv v rst) S') Thr) : K n pc L (As.reverse ++ vR t i :: rst) S := by
  refine M.leave (fun p e R s m args below meth c A Q C hK hout => ?_)
  rw [hK]
  intro hn H locs ls hW hS hL
  refine run_core C hS (runV_of C hW hS hL d hc hv hna hR ht hi hcat hC) (fun E ce q9 S' H1 locs1 hE hW1 hS1 h1 h2 h3 => hout (n + Ny) pc ls _ E ce q9 S' H1 locs1 hR.2.2 hE hW1 hS1 h1 h2 h3) (fun v S' H1 locs1 hk hW1 hS1 => ?_)
  rw [pv_map]
  exact (hK _ _ _ _ _).mp hk hR.2.2 H1 locs1 ls hW1 hS1 hL
theorem r_callS (M : Mach g own cc nL ret fr lo N Ret Thr K) {y : MethodName} {ccy : ByteArray} {nLy fry loy Ny ix na : Nat} {rety : Option FieldType} {As rst : List AV} (d : decode cc pc = .ok (.invokestatic ix, 3)) (hl : Cond.methodLink own ix y ∈ WT) (hst9 : Cond.static y ∈ WT) (how : y.cls = own) (hc : Ck own ix y ccy nLy rety na) (hna : As.length = na) (hR : fry + 1 ≤ fr ∧ 8 + (nLy + 11) + loy ≤ lo ∧ n + Ny ≤ N)
    (hcat : (rst.map fun v => (cv g v).category).sum ≤ 8) (hC : Cn g y ccy nLy rety fry loy Ny As S (fun v S' => K (n + Ny) (pc + 3) L (pv v rst) S') Thr) : K n pc L (As.reverse ++ rst) S := by
  refine M.leave (fun p e R s m args below meth c A Q C hK hout => ?_)
  rw [hK]
  intro hn H locs ls hW hS hL
  refine run_core C hS (runS_of C hW hS hL d hl hst9 how hc hna hR hcat hC) (fun E ce q9 S' H1 locs1 hE hW1 hS1 h1 h2 h3 => hout (n + Ny) pc ls _ E ce q9 S' H1 locs1 hR.2.2 hE hW1 hS1 h1 h2 h3) (fun v S' H1 locs1 hk hW1 hS1 => ?_)
  rw [pv_map]
  exact (hK _ _ _ _ _).mp hk hR.2.2 H1 locs1 ls hW1 hS1 hL
/-- a walk of the body gives the contract -/
theorem enter {y : MethodName} {av : List AV} (hy : plainName y.cls = true) (hlen : (lg_sl (av.map (cv g))).length ≤ nL) (hLL : lvl g L = lv_args 0 (av.map (cv g)))
    (h : ∀ K : KT, Mach g y.cls cc nL ret fr lo N Ret Thr K → K 0 0 L [] S) : Cn g y cc nL ret fr lo N av S Ret Thr := by
  intro sz
  refine vx_ofW (cc := cc) (maxL := nL) (ret := ret) hy rfl ?_
  intro p e s m args below meth c s₁ B hml hex hv
  obtain ⟨rfl, hsz, hG, hW, hZ⟩ := hv
  subst hsz
  have hts0 := atoms_spec (ws := Cond.code y cc nL ret :: WT) B.pre
  have C : Ctx g y.cls cc nL fr lo N p (headSpec (Cond.code y cc nL ret :: WT) ({ frames := fr, cells := N, slots := 6 * N, locals := lo })).room s m (av.map (cv g)).toArray meth c (Ag g s.heap.size) 0 0 :=
    ⟨B.exec, B.bytes, hml, findClass_of_methodNamed B.named, fun w hw => hts0 w (List.mem_cons_of_mem _ hw), hG, fun q hq => Or.inl ⟨q, hq, rfl⟩, fun q hq => Or.inr hq, hZ, B.notSynchronized, Nat.le_refl _, Nat.le_refl _, by show 0 + N ≤ N; omega, by show 0 + 6 * N ≤ 6 * N; omega⟩
  have k := h (Wk g nL N p e (headSpec (Cond.code y cc nL ret :: WT) ({ frames := fr, cells := N, slots := 6 * N, locals := lo })).room s m (av.map (cv g)).toArray below meth c (Ag g s.heap.size) 0 0 (vx_MQ below (Qr g Ret (Ag g s.heap.size)) (XCr g Thr (Ag g s.heap.size)) (av.map (cv g)).toArray s N (6 * N) (Ag g s.heap.size)))
    ⟨p, e, _, s, m, _, below, meth, c, _, C, fun x hx => (hex x hx).elim, B.returns, fun _ _ _ _ _ => Iff.rfl⟩
  have hl := lv_entry (av.map (cv g)) (n := nL) hlen
  rw [lg_entry_eq]
  refine k (Nat.zero_le _) s.heap [] _ hW va_S.rf ⟨hl.1, hl.2.1, fun j v hj => ?_⟩
  exact hl.2.2 (j, cv g v) (by rw [← hLL]; exact lvl_mem.mpr ⟨v, hj, rfl⟩)
end KC
