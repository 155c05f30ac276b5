/-! THE CLAIM OUT OF ONE WALK OF THE LAW'S BODY. Your part is whole_start (and what it stands on); all else here is the same for every law, but numbers. -/
def R_law : String := "DefaultFundLaw"
def lw_P (b : Addr) (xs : List Int32) (args : Array Value) (s : State) : Prop := args = #[.ref b] ∧ s.IntsAt b xs ∧ xs.length ≤ 2048 ∧ (Jvm.Cond.and given_1 narrow_1).before args s = true
def lw_Q (_ : Array Value) (s : State) (o : Outcome) (t : State) : Prop := o = .returned (some (.int 1)) ∧ Framed s o t [] 601024 7293034
def lw_Z (below : List Frame) (a : Array Value) (s : State) : State → Prop := fun t => ∃ o, t.status = .running ∧ Ended t below o ∧ lw_Q a s o t
/-- the law's own end, with 1 on the stack, nothing written that was there before, its room as the claim has it -/
theorem lw_ret {p : Program} {l : Launch} {e : Env} {s : State} {m : MethodId} {below : List Frame} {meth : Method} {c : Code} {b : Nat} (hx : p.tables.exec = Jvm.exec) (hb : c.code = code) (hr : meth.sig.returnType = ret) (hlocks : meth.locks = false) {pc : Nat} {H : Heap} {ls : Array Slot} (hdg : decode code pc = .ok (.ireturn, 1)) : W p l e room_1 s m #[Value.ref b] below meth c H [] 601024 7293034 (lw_Z below #[Value.ref b] s) (F0 m pc ls [.int 1]) := by
  intro T hT X
  obtain ⟨fs, hret, hrun, hended, hW, hframe⟩ := X.leave (v := some (.int 1)) (hlocks := hlocks) (fun h => by rw [hr] at h; cases h)
  have hmeth' : T.vm.method? m = some meth := X.method'
  refine ⟨T.setFrames fs, ?_, .returned (some (.int 1)), hrun, hended, rfl, ⟨_, rfl⟩, hW, hframe⟩
  jvm_step X.here [X.here.top, hx, hb, hdg, hmeth', hr, ret, narrow_b1]
  (try refine ⟨rfl, ?_⟩); (try refine ⟨rfl, ?_⟩)
  first | (intro acts; rw [hret _ acts rfl rfl rfl]) | rw [hret _ _ rfl rfl rfl]
  exact Steps.refl _
/-- what holds at the law's entry: the machine, the code, the tables' words (any of lw_tbl by 'hts w (by decide +kernel)'), the script of L ints xs at the cell b, what the Statement gives of the start (any of its parts by flat_of_before) -/
def lw_At (p : Program) (s : State) (m : MethodId) (meth : Method) (c : Code) (b L : Nat) (xs : Nat → Int32) : Prop :=
  p.tables.exec = Jvm.exec ∧ c.code = code ∧ meth.sig.returnType = ret ∧ c.maxLocals = 7 ∧ s.vm.findClass R_law = some m.cls ∧ (∀ w ∈ lw_tbl, w.before #[Value.ref b] s = true) ∧ va_X b L xs s s.heap ∧ b < s.heap.size ∧ meth.locks = false ∧ (Jvm.Cond.and given_1 narrow_1).before #[Value.ref b] s = true
/-! ===== the law's own machine ===== -/
section KLW
def MkW (g : Gl) (b Ln : Nat) (xs : Nat → Int32) (N : Nat) (K : KT) : Prop :=
  ∃ (p : Program) (e : Env) (s : State) (m : MethodId) (below : List Frame) (meth : Method) (c : Code) (c0 s0 : Nat), Ctx g RL cL_law 7 11 390 N p room_1 s m #[Value.ref b] meth c (fun q => s.heap.size ≤ q) c0 s0 ∧ meth.sig.returnType = ret ∧ va_X b Ln xs s s.heap ∧ b < s.heap.size ∧ Ln < 2147483648 ∧
    ∀ n pc L st S, K n pc L st S ↔ Wk g 7 N p e room_1 s m #[Value.ref b] below meth c (fun q => s.heap.size ≤ q) c0 s0 (lw_Z below #[Value.ref b] s) n pc L st S
variable {g : Gl} {b Ln : Nat} {xs : Nat → Int32} {N : Nat} {K : KT} {n pc : Nat} {L : List (Option AV)} {st : List AV} {S : St}
theorem MkW.mk (M : MkW g b Ln xs N K) : Mk g RL cL_law 7 11 390 N K := by
  obtain ⟨p, e, s, m, below, meth, c, c0, s0, C, _, _, _, _, hK⟩ := M
  exact ⟨p, e, room_1, s, m, _, below, meth, c, _, c0, s0, _, C, hK⟩
theorem rw_len (M : MkW g b Ln xs N K) (d : decode cL_law pc = .ok (.arraylength, 1)) (kk : K n (pc + 1) L (vI (Ln : Int) :: st) S) : K n pc L (vX b :: st) S := by
  obtain ⟨p, e, s, m, below, meth, c, c0, s0, C, hr, hX, hbl, hLn, hK⟩ := M
  rw [hK] at kk ⊢
  intro hn H locs ls hW hS hL
  refine va_slen C.1 C.2.1 hX hbl (Nat.not_le.mpr hbl) hS d ?_
  have e1 : Int32.ofNat Ln = Int32.ofInt (Ln : Int) := by
    rw [← Int32.toInt_inj, toI (by omega)]
    exact Int32.toInt_ofNat_of_lt hLn
  rw [e1]
  exact kk hn H locs ls hW hS hL
theorem rw_sld (M : MkW g b Ln xs N K) {z : Int} (j : Nat) (d : decode cL_law pc = .ok (.iaload, 1)) (hz : z = (j : Int)) (hj : j < Ln) (kk : K n (pc + 1) L (vI (xs j).toInt :: st) S) : K n pc L (vI z :: vX b :: st) S := by
  obtain ⟨p, e, s, m, below, meth, c, c0, s0, C, hr, hX, hbl, hLn, hK⟩ := M
  rw [hK] at kk ⊢
  intro hn H locs ls hW hS hL
  obtain ⟨e1, e2⟩ := ofI_clamp (j := z) (n := Ln) (by omega) (by omega)
  have e3 : z.toNat = j := by omega
  refine va_sld C.1 C.2.1 hX hbl (Nat.not_le.mpr hbl) hS e2 d ?_
  rw [e1, e3]
  have e4 : cv g (vI (xs j).toInt) = .int (xs j) := by
    show Value.int (Int32.ofInt (xs j).toInt) = _
    rw [Int32.ofInt_toInt]
  have k := kk hn H locs ls hW hS hL
  rw [List.map_cons, e4] at k
  exact k
theorem r_iand {own : String} {cc : ByteArray} {nL fr lo : Nat} (M : Mk g own cc nL fr lo N K) {a c : Int} (d : decode cc pc = .ok (.iand, 1)) (kk : K n (pc + 1) L (vI (Int32.ofInt a &&& Int32.ofInt c).toInt :: st) S) : K n pc L (vI c :: vI a :: st) S :=
  M.go (fun p e R s m args below meth c9 A c0 s0 Q C H locs ls hW hS hL hn k => lv_iand C.1 C.2.1 d (by
    have h := k ls hL
    rw [List.map_cons, show cv g (vI (Int32.ofInt a &&& Int32.ofInt c).toInt) = .int (Int32.ofInt a &&& Int32.ofInt c) from congrArg Value.int (Int32.ofInt_toInt _)] at h
    exact h)) kk
theorem rw_out (M : MkW g b Ln xs N K) {dflt lo hi z : Int} {offs : Array Int} {len tgt : Nat} (d : decode cL_law pc = .ok (.tableswitch dflt lo hi offs, len)) (hz : -2147483648 ≤ z ∧ z ≤ 2147483647) (h : z < lo ∨ hi < z) (ht : (pc : Int) + dflt = (tgt : Int)) (kk : K n tgt L st S) : K n pc L (vI z :: st) S :=
  M.mk.go (fun p e R s m args below meth c9 A c0 s0 Q C H locs ls hW hS hL hn k => lv_tableOut C.1 C.2.1 d (by rw [toI hz]; exact h) ht (k ls hL)) kk
theorem rw_in (M : MkW g b Ln xs N K) {dflt lo hi z off : Int} {offs : Array Int} {len tgt : Nat} (d : decode cL_law pc = .ok (.tableswitch dflt lo hi offs, len)) (hz : -2147483648 ≤ z ∧ z ≤ 2147483647) (h1 : ¬ z < lo) (h2 : ¬ hi < z) (ho : offs[(z - lo).toNat]? = some off) (ht : (pc : Int) + off = (tgt : Int)) (kk : K n tgt L st S) : K n pc L (vI z :: st) S :=
  M.mk.go (fun p e R s m args below meth c9 A c0 s0 Q C H locs ls hW hS hL hn k => lv_tableIn C.1 C.2.1 d (by rw [toI hz]; exact h1) (by rw [toI hz]; exact h2) (by rw [toI hz]; exact ho) ht (k ls hL)) kk
/-- the law's end, with true -/
theorem rw_ret (M : MkW g b Ln xs N K) (d : decode cL_law pc = .ok (.ireturn, 1)) : K n pc L [vI 1] S := by
  obtain ⟨p, e, s, m, below, meth, c, c0, s0, C, hr, hX, hbl, hLn, hK⟩ := M
  rw [hK]
  intro hn H locs ls hW hS hL
  have hR := C.2.2.2.2.2.2.2.2.2.2
  have h1 : room_1.cells = 601024 := rfl
  have h2 : room_1.slots = 7293034 := rfl
  refine va_forget (fun q hq => hS.2.2 q hq) ?_
  refine W.widen (k := 601024) (n := 7293034) (by omega) (by omega) ?_
  exact lw_ret C.1 C.2.1 hr C.2.2.2.2.2.2.2.2.2.1 d
theorem rk_callV0 {own : String} {cc : ByteArray} {nL fr lo : Nat} (M : Mk g own cc nL fr lo N K) {y : MethodName} {ccy : ByteArray} {nLy fry loy Ny ix t i : Nat} {rety : Option FieldType} {rst : List AV} (d : decode cc pc = .ok (.invokevirtual ix, 3)) (hc : Ck own ix y ccy nLy rety 0) (hv : Vk y) (hR : fry + 1 ≤ fr ∧ 8 + (nLy + 11) + loy ≤ lo ∧ n + Ny ≤ N)
    (ht : kd t < 5 ∧ t < 30 ∧ (vwCl[kd t]?).map (fun q => q.1) = some y.cls) (hi : i < ctn t) (hcat : (rst.map fun v => (cv g v).category).sum ≤ 8) (hC : Cn g y ccy nLy rety fry loy Ny [vR t i] S (fun v S' => K (n + Ny) (pc + 3) L (pv v rst) S') (fun _ _ => False)) : K n pc L (vR t i :: rst) S := rk_callV M (As := []) d hc hv rfl hR ht hi hcat hC
theorem rk_callV1 {own : String} {cc : ByteArray} {nL fr lo : Nat} (M : Mk g own cc nL fr lo N K) {y : MethodName} {ccy : ByteArray} {nLy fry loy Ny ix t i : Nat} {rety : Option FieldType} {a1 : AV} {rst : List AV} (d : decode cc pc = .ok (.invokevirtual ix, 3)) (hc : Ck own ix y ccy nLy rety 1) (hv : Vk y) (hR : fry + 1 ≤ fr ∧ 8 + (nLy + 11) + loy ≤ lo ∧ n + Ny ≤ N)
    (ht : kd t < 5 ∧ t < 30 ∧ (vwCl[kd t]?).map (fun q => q.1) = some y.cls) (hi : i < ctn t) (hcat : (rst.map fun v => (cv g v).category).sum ≤ 8) (hC : Cn g y ccy nLy rety fry loy Ny [vR t i, a1] S (fun v S' => K (n + Ny) (pc + 3) L (pv v rst) S') (fun _ _ => False)) : K n pc L (a1 :: vR t i :: rst) S := rk_callV M (As := [a1]) d hc hv rfl hR ht hi hcat hC
theorem rk_callV2 {own : String} {cc : ByteArray} {nL fr lo : Nat} (M : Mk g own cc nL fr lo N K) {y : MethodName} {ccy : ByteArray} {nLy fry loy Ny ix t i : Nat} {rety : Option FieldType} {a1 a2 : AV} {rst : List AV} (d : decode cc pc = .ok (.invokevirtual ix, 3)) (hc : Ck own ix y ccy nLy rety 2) (hv : Vk y) (hR : fry + 1 ≤ fr ∧ 8 + (nLy + 11) + loy ≤ lo ∧ n + Ny ≤ N)
    (ht : kd t < 5 ∧ t < 30 ∧ (vwCl[kd t]?).map (fun q => q.1) = some y.cls) (hi : i < ctn t) (hcat : (rst.map fun v => (cv g v).category).sum ≤ 8) (hC : Cn g y ccy nLy rety fry loy Ny [vR t i, a1, a2] S (fun v S' => K (n + Ny) (pc + 3) L (pv v rst) S') (fun _ _ => False)) : K n pc L (a2 :: a1 :: vR t i :: rst) S := rk_callV M (As := [a1, a2]) d hc hv rfl hR ht hi hcat hC
theorem rk_callV3 {own : String} {cc : ByteArray} {nL fr lo : Nat} (M : Mk g own cc nL fr lo N K) {y : MethodName} {ccy : ByteArray} {nLy fry loy Ny ix t i : Nat} {rety : Option FieldType} {a1 a2 a3 : AV} {rst : List AV} (d : decode cc pc = .ok (.invokevirtual ix, 3)) (hc : Ck own ix y ccy nLy rety 3) (hv : Vk y) (hR : fry + 1 ≤ fr ∧ 8 + (nLy + 11) + loy ≤ lo ∧ n + Ny ≤ N)
    (ht : kd t < 5 ∧ t < 30 ∧ (vwCl[kd t]?).map (fun q => q.1) = some y.cls) (hi : i < ctn t) (hcat : (rst.map fun v => (cv g v).category).sum ≤ 8) (hC : Cn g y ccy nLy rety fry loy Ny [vR t i, a1, a2, a3] S (fun v S' => K (n + Ny) (pc + 3) L (pv v rst) S') (fun _ _ => False)) : K n pc L (a3 :: a2 :: a1 :: vR t i :: rst) S := rk_callV M (As := [a1, a2, a3]) d hc hv rfl hR ht hi hcat hC
end KLW
