/-! ===== methods with an exception table; calls that throw nothing ===== -/
section KW
abbrev HH : Type := List (Nat × Nat × Nat × Nat)
def te (q : Nat × Nat × Nat × Nat) : ExceptionTableEntry := ⟨q.1, q.2.1, q.2.2.1, q.2.2.2⟩
def cth (k : Nat) (E : String) : Prop := (k = 13 ∧ E = E_A) ∨ (k = 15 ∧ E = E_S) ∨ (k = 21 ∧ E = E_B)
theorem cl_13 : Cond.classLink RL 13 E_A ∈ WT := wt_at 208 (by decide +kernel) rfl
theorem ca_13 : Cond.castable E_A E_A ∈ NW := nw_at 220 (by decide +kernel) rfl
theorem cl_15 : Cond.classLink RL 15 E_S ∈ WT := wt_at 209 (by decide +kernel) rfl
theorem ca_15 : Cond.castable E_S E_S ∈ NW := nw_at 288 (by decide +kernel) rfl
theorem cl_21 : Cond.classLink RL 21 E_B ∈ WT := wt_at 309 (by decide +kernel) rfl
theorem ca_21 : Cond.castable E_B E_B ∈ NW := nw_at 320 (by decide +kernel) rfl
theorem cth_w {k : Nat} {E : String} (h : cth k E) : Cond.classLink RL k E ∈ WT ∧ Cond.castable E E ∈ NW ∧ k ≠ 0 := by
  rcases h with ⟨rfl, rfl⟩ | ⟨rfl, rfl⟩ | ⟨rfl, rfl⟩
  · exact ⟨cl_13, ca_13, by omega⟩
  · exact ⟨cl_15, ca_15, by omega⟩
  · exact ⟨cl_21, ca_21, by omega⟩
def HT (K : KT) (hh : HH) (n pc : Nat) (L : List (Option AV)) : String → St → Prop := fun E S' => ∃ (pre : HH) (q : Nat × Nat × Nat × Nat) (suf : HH), hh = pre ++ q :: suf ∧ covers (te q) pc = true ∧ cth q.2.2.2 E ∧ (∀ z ∈ pre, ∃ nm, cth z.2.2.2 nm ∧ (E, nm) ∈ ncs) ∧ ∀ qa, K n q.2.2.1 L [vX qa] S'
def MachH (g : Gl) (cc : ByteArray) (nL : Nat) (ret : Option FieldType) (hh : HH) (fr lo N : Nat) (Ret : Option AV → St → Prop) (Thr : String → St → Prop) (K : KT) : Prop :=
  ∃ (p : Program) (e : Env) (R : Room) (s : State) (m : MethodId) (args : Array Value) (below : List Frame) (meth : Method) (c : Code) (A : Nat → Prop), Ctx g RL cc nL fr lo N p R s m args meth c A 0 0 ∧ c.exceptionTable.toList = tableOf hh ∧ meth.sig.returnType = ret ∧
    ∀ n pc L st S, K n pc L st S ↔ Wk g nL N p e R s m args below meth c A 0 0 (vx_MQ below (Qr g Ret A) (XCr g Thr A) args s N (6 * N) A) n pc L st S
variable {g : Gl} {own : String} {cc : ByteArray} {nL fr lo N : Nat} {ret : Option FieldType} {hh : HH} {Ret : Option AV → St → Prop} {Thr : String → St → Prop} {K : KT} {n pc : Nat} {L : List (Option AV)} {st : List AV} {S : St}
theorem MachH.mk (M : MachH g cc nL ret hh fr lo N Ret Thr K) : Mk g RL cc nL fr lo N K := by
  obtain ⟨p, e, R, s, m, args, below, meth, c, A, C, _, _, hK⟩ := M
  exact ⟨p, e, R, s, m, args, below, meth, c, A, 0, 0, _, C, hK⟩
theorem rH_iret (M : MachH g cc nL (some .int) hh fr lo N Ret Thr K) {x : Int} (d : decode cc pc = .ok (.ireturn, 1)) (hv : Ret (some (vI x)) S) : K n pc L [vI x] S := by
  obtain ⟨p, e, R, s, m, args, below, meth, c, A, C, _, hr, hK⟩ := M
  rw [hK]
  intro hn H locs ls hW hS hL
  exact W.widen (k := N) (n := 6 * N) (by omega) (by omega) (vx_ret (W.iret (Qc := Qr g Ret A) C.1 C.2.1 hr (fun t ht _ => ⟨⟨some (vI x), S, rfl, hv, by rw [ht]; exact hW⟩, hS.F ht⟩) hS.2.2 d C.2.2.2.2.2.2.2.2.2.1))
theorem rH_callV (M : MachH g cc nL ret hh fr lo N Ret Thr K) {y : MethodName} {ccy : ByteArray} {nLy fry loy Ny ix na t i : Nat} {rety : Option FieldType} {As rst : List AV} (d : decode cc pc = .ok (.invokevirtual ix, 3)) (hc : Ck RL ix y ccy nLy rety na) (hv : Vk y) (hna : As.length = na) (hR : fry + 1 ≤ fr ∧ 8 + (nLy + 11) + loy ≤ lo ∧ n + Ny ≤ N)
    (ht : kd t < 5 ∧ t < 30 ∧ (vwCl[kd t]?).map (fun q => q.1) = some y.cls) (hi : i < ctn t) (hcat : (rst.map fun v => (cv g v).category).sum ≤ 8) (hC : Cn g y ccy nLy rety fry loy Ny (vR t i :: As) S (fun v S' => K (n + Ny) (pc + 3) L (pv v rst) S') (HT K hh (n + Ny) pc L)) : K n pc L (As.reverse ++ vR t i :: rst) S := by
  obtain ⟨p, e, R, s, m, args, below, meth, c, A, C, hx, hr, hK⟩ := M
  rw [hK]
  intro hn H locs ls hW hS hL
  refine run_core C hS (runV_of C hW hS hL d hc hv hna hR ht hi hcat hC) (fun E ce q9 S' H1 locs1 hE hW1 hS1 h1 h2 h3 => ?_) (fun v S' H1 locs1 hk hW1 hS1 => ?_)
  · obtain ⟨pre, q, suf, e1, hcov, hct, hpre, hk⟩ := hE
    have hw := cth_w hct
    refine vx_catch (own := RL) (name := E) C.2.2.2.1 (pre.map te) (te q) (suf.map te) (by rw [hx, e1]; simp only [tableOf, List.map_append, List.map_cons]; rfl) (fun z hz => ?_) hcov hw.2.2 (C.2.2.2.2.1 _ hw.1) (nw_before C.2.2.2.2.2.1 hw.2.1) h1 h2 h3 ?_
    · obtain ⟨z0, hz0, rfl⟩ := List.mem_map.mp hz
      obtain ⟨nm, h4, h5⟩ := hpre z0 hz0
      exact Or.inr ⟨(cth_w h4).2.2, nm, C.2.2.2.2.1 _ (cth_w h4).1, C.2.2.2.2.2.1.2.2.2.1 _ h5⟩
    · exact (hK _ _ _ _ _).mp (hk q9) hR.2.2 H1 locs1 ls hW1 hS1 hL
  · rw [pv_map]
    exact (hK _ _ _ _ _).mp hk hR.2.2 H1 locs1 ls hW1 hS1 hL
/-- a call that throws nothing, from any method -/
theorem rk_callV (M : Mk g own cc nL fr lo N K) {y : MethodName} {ccy : ByteArray} {nLy fry loy Ny ix na t i : Nat} {rety : Option FieldType} {As rst : List AV} (d : decode cc pc = .ok (.invokevirtual ix, 3)) (hc : Ck own ix y ccy nLy rety na) (hv : Vk y) (hna : As.length = na) (hR : fry + 1 ≤ fr ∧ 8 + (nLy + 11) + loy ≤ lo ∧ n + Ny ≤ N)
    (ht : kd t < 5 ∧ t < 30 ∧ (vwCl[kd t]?).map (fun q => q.1) = some y.cls) (hi : i < ctn t) (hcat : (rst.map fun v => (cv g v).category).sum ≤ 8) (hC : Cn g y ccy nLy rety fry loy Ny (vR t i :: As) S (fun v S' => K (n + Ny) (pc + 3) L (pv v rst) S') (fun _ _ => False)) : K n pc L (As.reverse ++ vR t i :: rst) S := by
  obtain ⟨p, e, R, s, m, args, below, meth, c, A, c0, s0, Q, C, hK⟩ := M
  rw [hK]
  intro hn H locs ls hW hS hL
  refine run_core C hS (runV_of C hW hS hL d hc hv hna hR ht hi hcat hC) (fun E ce q9 S' H1 locs1 hE => hE.elim) (fun v S' H1 locs1 hk hW1 hS1 => ?_)
  rw [pv_map]
  exact (hK _ _ _ _ _).mp hk hR.2.2 H1 locs1 ls hW1 hS1 hL
def CkH (own : String) (ix : Nat) (y : MethodName) (cc : ByteArray) (nL : Nat) (ret : Option FieldType) (hh : HH) (na : Nat) : Prop := Cond.methodLink own ix y ∈ WT ∧ Cond.static y ∈ WT ∧ Cond.initialized own ∈ WT ∧ Cond.codeWith y cc nL ret hh ∈ WT ∧ (y.cls ≠ "java/lang/invoke/MethodHandle" ∧ y.cls ≠ "java/lang/invoke/VarHandle" ∧ (parseMethodDescriptor y.desc).map (fun d => d.parameters.length) = some na) ∧ y.cls = own
/-- a static call of a method with a table, that throws nothing -/
theorem rk_callSH (M : Mk g own cc nL fr lo N K) {y : MethodName} {ccy : ByteArray} {nLy fry loy Ny ix na : Nat} {rety : Option FieldType} {hhy : HH} {As rst : List AV} (d : decode cc pc = .ok (.invokestatic ix, 3)) (hc : CkH own ix y ccy nLy rety hhy na) (hna : As.length = na) (hR : fry + 1 ≤ fr ∧ 8 + (nLy + 11) + loy ≤ lo ∧ n + Ny ≤ N)
    (hcat : (rst.map fun v => (cv g v).category).sum ≤ 8) (hC : CnH g y ccy nLy rety hhy fry loy Ny As S (fun v S' => K (n + Ny) (pc + 3) L (pv v rst) S') (fun _ _ => False)) : K n pc L (As.reverse ++ rst) S := by
  obtain ⟨p, e, R, s, m, args, below, meth, c, A, c0, s0, Q, C, hK⟩ := M
  rw [hK]
  intro hn H locs ls hW hS hL
  obtain ⟨hk1, hk2, hk3, hk4, hk5, hk6⟩ := hc
  have hR1 := C.2.2.2.2.2.2.2.2.2.2
  have hst : ((As.reverse ++ rst).map (cv g)) = (As.map (cv g)).reverse ++ rst.map (cv g) := by simp
  have hcat2 : ((rst.map (cv g)).map fun v => v.category).sum ≤ 8 := by rw [List.map_map]; exact hcat
  have hfix : CallFix p m c cc nL s args WT own := ⟨C.1, C.2.1, C.2.2.1, C.2.2.2.1, C.2.2.2.2.1⟩
  have hrun : vx_Run p g.1 e R s m args below meth c H locs (c0 + n) (s0 + 6 * n) Ny (6 * Ny) (F0 m pc ls ((As.reverse ++ rst).map (cv g))) (rst.map (cv g)) (Qr g (fun v S' => K (n + Ny) (pc + 3) L (pv v rst) S') (Ag g H.size) (As.map (cv g)).toArray) (XCr g (fun _ _ => False) (Ag g H.size)) (Ag g H.size) := vx_runSX (As := As.map (cv g)) hfix (hC H.size) (vx_cwSW na C.2.2.2.2.1 (wt_good (fun w hw => by
      rcases List.mem_append.mp hw with hw | hw
      · simp only [List.mem_cons, List.not_mem_nil, or_false] at hw
        rcases hw with rfl | rfl | rfl
        · exact hk1
        · exact hk2
        · first | exact hk3 | (rw [hk6]; exact hk3)
      · rcases List.mem_cons.mp hw with hw | hw
        · rw [hw]; exact hk4
        · exact hw)) rfl rfl rfl hk5 ⟨by show fry + 1 ≤ _; omega, by show 8 + (nLy + 11) + loy ≤ _; omega⟩)
    ⟨Pr_blind g _ S _, pre_of C hW hS As⟩ rfl (by rw [List.length_map]; exact hna) (hL.1) (by rw [hst]) (lv_room hcat2) d ⟨by omega, by omega⟩
  refine run_core C hS hrun (fun E ce q9 S' H1 locs1 hE => hE.elim) (fun v S' H1 locs1 hk hW1 hS1 => ?_)
  rw [pv_map]
  exact (hK _ _ _ _ _).mp hk hR.2.2 H1 locs1 ls hW1 hS1 hL
theorem enterH {y : MethodName} {av : List AV} (hy : plainName y.cls = true) (how : y.cls = RL) (hlen : (lg_sl (av.map (cv g))).length ≤ nL) (hLL : lvl g L = lv_args 0 (av.map (cv g)))
    (h : ∀ K : KT, MachH g cc nL ret hh fr lo N Ret Thr K → K 0 0 L [] S) : CnH g y cc nL ret hh fr lo N av S Ret Thr := by
  intro sz
  refine vx_ofWH (cc := cc) (maxL := nL) (ret := ret) (hh := hh) hy rfl ?_
  intro p e s m args below meth c s₁ B hml hv
  obtain ⟨rfl, hsz, hG, hW, hZ⟩ := hv
  subst hsz
  have hts0 := atoms_spec (ws := Cond.codeWith y cc nL ret hh :: WT) B.pre
  have hfc := findClass_of_methodNamed B.named
  rw [how] at hfc
  have C : Ctx g RL cc nL fr lo N p (headSpec (Cond.codeWith y cc nL ret hh :: WT) ({ frames := fr, cells := N, slots := 6 * N, locals := lo })).room s m (av.map (cv g)).toArray meth c (Ag g s.heap.size) 0 0 :=
    ⟨B.exec, B.bytes, hml, hfc, fun w hw => hts0 w (List.mem_cons_of_mem _ hw), hG, fun q hq => Or.inl ⟨q, hq, rfl⟩, fun q hq => Or.inr hq, hZ, B.notSynchronized, Nat.le_refl _, Nat.le_refl _, by show 0 + N ≤ N; omega, by show 0 + 6 * N ≤ 6 * N; omega⟩
  have htab := vx_table (x := y) B (hts0 _ List.mem_cons_self)
  have k := h (Wk g nL N p e (headSpec (Cond.codeWith y cc nL ret hh :: WT) ({ frames := fr, cells := N, slots := 6 * N, locals := lo })).room s m (av.map (cv g)).toArray below meth c (Ag g s.heap.size) 0 0 (vx_MQ below (Qr g Ret (Ag g s.heap.size)) (XCr g Thr (Ag g s.heap.size)) (av.map (cv g)).toArray s N (6 * N) (Ag g s.heap.size)))
    ⟨p, e, _, s, m, _, below, meth, c, _, C, htab, B.returns, fun _ _ _ _ _ => Iff.rfl⟩
  have hl := lv_entry (av.map (cv g)) (n := nL) hlen
  rw [lg_entry_eq]
  refine k (Nat.zero_le _) s.heap [] _ hW va_S.rf ⟨hl.1, hl.2.1, fun j v hj => ?_⟩
  exact hl.2.2 (j, cv g v) (by rw [← hLL]; exact lvl_mem.mpr ⟨v, hj, rfl⟩)
end KW
