/-! ===== more instructions; calls that throw nothing; counts that are rounded up ===== -/
theorem i32_rng (v : Int32) : -2147483648 ≤ v.toInt ∧ v.toInt ≤ 2147483647 := by
  have h1 := Int32.le_toInt v
  have h2 := Int32.toInt_lt v
  omega
theorem and31 (a : Int32) : 0 ≤ (a &&& Int32.ofInt 2147483647).toInt := by
  have h : (a &&& Int32.ofInt 2147483647).toBitVec = a.toBitVec &&& 2147483647#32 := by rw [Int32.toBitVec_and]; rfl
  show 0 ≤ (a &&& Int32.ofInt 2147483647).toBitVec.toInt
  rw [h]
  have h2 : (a.toBitVec &&& 2147483647#32).toNat ≤ 2147483647 := by rw [BitVec.toNat_and]; exact Nat.and_le_right
  rw [BitVec.toInt_eq_toNat_of_lt (by omega)]
  omega
theorem ushr1 (a : Int32) : 0 ≤ ((a.toUInt32 >>> ((Int32.ofInt 1).toUInt32 &&& Int32.toUInt32 31)).toInt32).toInt := by
  rw [show ((Int32.ofInt 1).toUInt32 &&& Int32.toUInt32 31) = 1 from by decide]
  have hn : (a.toUInt32 >>> 1).toNat = a.toUInt32.toNat / 2 := by rw [UInt32.toNat_shiftRight]; exact Nat.shiftRight_eq_div_pow _ 1
  have h3 := a.toUInt32.toNat_lt
  show 0 ≤ (a.toUInt32 >>> 1).toBitVec.toInt
  have h4 : (a.toUInt32 >>> 1).toBitVec.toNat = a.toUInt32.toNat / 2 := hn
  rw [BitVec.toInt_eq_toNat_of_lt (by omega)]
  omega
theorem iv_cv (g : Gl) (v : Int32) : cv g (vI v.toInt) = .int v := congrArg Value.int (Int32.ofInt_toInt v)
section KX
variable {g : Gl} {own : String} {cc : ByteArray} {nL fr lo N : Nat} {ret : Option FieldType} {Ret : Option AV → St → Prop} {Thr : String → St → Prop} {K : KT} {n pc : Nat} {L : List (Option AV)} {st : List AV} {S : St}
theorem r_ishr (M : Mk g own cc nL fr lo N K) {a b : Int} (d : decode cc pc = .ok (.ishr, 1)) (kk : ∀ z : Int, (-2147483648 ≤ z ∧ z ≤ 2147483647) → K n (pc + 1) L (vI z :: st) S) : K n pc L (vI b :: vI a :: st) S :=
  M.go (fun p e R s m args below meth c A c0 s0 Q C H locs ls hW hS hL hn k => lv_ishr C.1 C.2.1 d (by
    have h := k ls hL
    rw [List.map_cons, iv_cv] at h
    exact h)) (kk (Int32.ofInt a >>> (Int32.ofInt b &&& 31)).toInt (i32_rng _))
theorem r_iushr (M : Mk g own cc nL fr lo N K) {a : Int} (d : decode cc pc = .ok (.iushr, 1)) (kk : ∀ z : Int, (0 ≤ z ∧ z ≤ 2147483647) → K n (pc + 1) L (vI z :: st) S) : K n pc L (vI 1 :: vI a :: st) S :=
  M.go (fun p e R s m args below meth c A c0 s0 Q C H locs ls hW hS hL hn k => lv_iushr C.1 C.2.1 d rfl (by
    have h := k ls hL
    rw [List.map_cons, iv_cv] at h
    exact h)) (kk (((Int32.ofInt a).toUInt32 >>> ((Int32.ofInt 1).toUInt32 &&& Int32.toUInt32 31)).toInt32).toInt ⟨ushr1 _, (i32_rng _).2⟩)
theorem r_iand (M : Mk g own cc nL fr lo N K) {a : Int} (d : decode cc pc = .ok (.iand, 1)) (kk : ∀ z : Int, (0 ≤ z ∧ z ≤ 2147483647) → K n (pc + 1) L (vI z :: st) S) : K n pc L (vI 2147483647 :: vI a :: st) S :=
  M.go (fun p e R s m args below meth c A c0 s0 Q C H locs ls hW hS hL hn k => lv_iand C.1 C.2.1 d (by
    have h := k ls hL
    rw [List.map_cons, iv_cv] at h
    exact h)) (kk (Int32.ofInt a &&& Int32.ofInt 2147483647).toInt ⟨and31 _, (i32_rng _).2⟩)
theorem remI {a b : Int} (h : (0 ≤ a ∧ a ≤ 2147483647) ∧ 0 < b ∧ b ≤ 2147483647) : Int32.ofInt a - Int32.ofInt a / Int32.ofInt b * Int32.ofInt b = Int32.ofInt (a % b) := by
  rw [divI h, ← Int32.ofInt_mul, ← Int32.ofInt_sub]
  congr 1
  have e := Int.mul_ediv_add_emod a b
  rw [Int.mul_comm] at e
  omega
theorem r_irem (M : Mk g own cc nL fr lo N K) {a b : Int} (d : decode cc pc = .ok (.irem, 1)) (h : (0 ≤ a ∧ a ≤ 2147483647) ∧ 0 < b ∧ b ≤ 2147483647) (kk : ∀ z : Int, (0 ≤ z ∧ z < b) → K n (pc + 1) L (vI z :: st) S) : K n pc L (vI b :: vI a :: st) S :=
  M.go (fun p e R s m args below meth c A c0 s0 Q C H locs ls hW hS hL hn k => lv_irem C.1 C.2.1 d (divI_ne h) (by rw [remI h]; exact k ls hL)) (kk (a % b) ⟨Int.emod_nonneg _ (by omega), Int.emod_lt_of_pos _ h.2.1⟩)
theorem r_xload_n (M : Mk g own cc nL fr lo N K) {j : Fin 4} {q : Nat} (d : decode cc pc = .ok (.aload_n j, 1)) (hl : L[(j : Nat)]? = some (some (vX q))) (kk : K n (pc + 1) L (vX q :: st) S) : K n pc L (st) S :=
  M.go (fun p e R s m args below meth c A c0 s0 Q C H locs ls hW hS hL hn k => lv_aload_n C.1 C.2.1 d rfl (hL.2.2 _ _ hl) (k ls hL)) kk
theorem r_lret (M : Mach g own cc nL (some .long) fr lo N Ret Thr K) {x : Int} (d : decode cc pc = .ok (.lreturn, 1)) (hv : Ret (some (vL x)) S) : K n pc L [vL x] S :=
  M.ends hv (fun p e R s m args below meth c A hx hb hr hlo H locs ls Qc hq hf => W.lret hx hb hr hq hf d hlo)
/-- two numbers that are the same -/
theorem r_icmp_ne_no (M : Mk g own cc nL fr lo N K) {a b off : Int} (d : decode cc pc = .ok (.if_icmp .ne off, 3)) {tgt : Nat} (ht : (pc : Int) + off = (tgt : Int)) (h : a = b) (k2 : K n (pc + 3) L st S) : K n pc L (vI b :: vI a :: st) S := by
  subst h
  exact M.go (fun p e R s m args below meth c A c0 s0 Q C H locs ls hW hS hL hn k => lv_icmp_ne C.1 C.2.1 d ht (fun q => absurd rfl q) (fun _ => k ls hL)) k2
theorem k_w (M : Mk g own cc nL fr lo N K) {n1 n2 : Nat} (h : n1 ≤ n2) (h2 : n2 ≤ N) (k : K n2 pc L st S) : K n1 pc L st S := by
  obtain ⟨p, e, R, s, m, args, below, meth, c, A, c0, s0, Q, C, hK⟩ := M
  rw [hK] at k ⊢
  intro hn H locs ls hW hS hL
  exact W.widen (by omega) (by omega) (k h2 H locs ls hW hS hL)
/-- a call that throws nothing, from any method -/
theorem rk_callV (M : Mk g own cc nL fr lo N K) {y : MethodName} {ccy : ByteArray} {nLy fry loy Ny ix na t i : Nat} {rety : Option FieldType} {As rst : List AV} (d : decode cc pc = .ok (.invokevirtual ix, 3)) (hc : Ck own ix y ccy nLy rety na) (hv : Vk y) (hna : As.length = na) (hR : fry + 1 ≤ fr ∧ 8 + (nLy + 11) + loy ≤ lo ∧ n + Ny ≤ N)
    (ht : kd t < 5 ∧ t < 13 ∧ (vwCl[kd t]?).map (fun q => q.1) = some y.cls) (hi : i < ctn t) (hcat : (rst.map fun v => (cv g v).category).sum ≤ 8) (hC : Cn g y ccy nLy rety fry loy Ny (vR t i :: As) S (fun v S' => K (n + Ny) (pc + 3) L (pv v rst) S') (fun _ _ => False)) : K n pc L (As.reverse ++ vR t i :: rst) S := by
  obtain ⟨p, e, R, s, m, args, below, meth, c, A, c0, s0, Q, C, hK⟩ := M
  rw [hK]
  intro hn H locs ls hW hS hL
  refine run_core C hS (runV_of C hW hS hL d hc hv hna hR ht hi hcat hC) (fun E ce q9 S' H1 locs1 hE => hE.elim) (fun v S' H1 locs1 hk hW1 hS1 => ?_)
  rw [pv_map]
  exact (hK _ _ _ _ _).mp hk hR.2.2 H1 locs1 ls hW1 hS1 hL
theorem rk_callS (M : Mk g own cc nL fr lo N K) {y : MethodName} {ccy : ByteArray} {nLy fry loy Ny ix na : Nat} {rety : Option FieldType} {As rst : List AV} (d : decode cc pc = .ok (.invokestatic ix, 3)) (hl : Cond.methodLink own ix y ∈ WT) (hst9 : Cond.static y ∈ WT) (how : y.cls = own) (hc : Ck own ix y ccy nLy rety na) (hna : As.length = na) (hR : fry + 1 ≤ fr ∧ 8 + (nLy + 11) + loy ≤ lo ∧ n + Ny ≤ N)
    (hcat : (rst.map fun v => (cv g v).category).sum ≤ 8) (hC : Cn g y ccy nLy rety fry loy Ny As S (fun v S' => K (n + Ny) (pc + 3) L (pv v rst) S') (fun _ _ => False)) : K n pc L (As.reverse ++ rst) S := by
  obtain ⟨p, e, R, s, m, args, below, meth, c, A, c0, s0, Q, C, hK⟩ := M
  rw [hK]
  intro hn H locs ls hW hS hL
  refine run_core C hS (runS_of C hW hS hL d hl hst9 how hc hna hR hcat hC) (fun E ce q9 S' H1 locs1 hE => hE.elim) (fun v S' H1 locs1 hk hW1 hS1 => ?_)
  rw [pv_map]
  exact (hK _ _ _ _ _).mp hk hR.2.2 H1 locs1 ls hW1 hS1 hL
theorem rk_callV0 (M : Mk g own cc nL fr lo N K) {y : MethodName} {ccy : ByteArray} {nLy fry loy Ny ix t i : Nat} {rety : Option FieldType} {rst : List AV} (d : decode cc pc = .ok (.invokevirtual ix, 3)) (hc : Ck own ix y ccy nLy rety 0) (hv : Vk y) (hR : fry + 1 ≤ fr ∧ 8 + (nLy + 11) + loy ≤ lo ∧ n + Ny ≤ N)
    (ht : kd t < 5 ∧ t < 13 ∧ (vwCl[kd t]?).map (fun q => q.1) = some y.cls) (hi : i < ctn t) (hcat : (rst.map fun v => (cv g v).category).sum ≤ 8) (hC : Cn g y ccy nLy rety fry loy Ny [vR t i] S (fun v S' => K (n + Ny) (pc + 3) L (pv v rst) S') (fun _ _ => False)) : K n pc L (vR t i :: rst) S := rk_callV M (As := []) d hc hv rfl hR ht hi hcat hC
theorem rk_callV1 (M : Mk g own cc nL fr lo N K) {y : MethodName} {ccy : ByteArray} {nLy fry loy Ny ix t i : Nat} {rety : Option FieldType} {a1 : AV} {rst : List AV} (d : decode cc pc = .ok (.invokevirtual ix, 3)) (hc : Ck own ix y ccy nLy rety 1) (hv : Vk y) (hR : fry + 1 ≤ fr ∧ 8 + (nLy + 11) + loy ≤ lo ∧ n + Ny ≤ N)
    (ht : kd t < 5 ∧ t < 13 ∧ (vwCl[kd t]?).map (fun q => q.1) = some y.cls) (hi : i < ctn t) (hcat : (rst.map fun v => (cv g v).category).sum ≤ 8) (hC : Cn g y ccy nLy rety fry loy Ny [vR t i, a1] S (fun v S' => K (n + Ny) (pc + 3) L (pv v rst) S') (fun _ _ => False)) : K n pc L (a1 :: vR t i :: rst) S := rk_callV M (As := [a1]) d hc hv rfl hR ht hi hcat hC
theorem rk_callV2 (M : Mk g own cc nL fr lo N K) {y : MethodName} {ccy : ByteArray} {nLy fry loy Ny ix t i : Nat} {rety : Option FieldType} {a1 a2 : AV} {rst : List AV} (d : decode cc pc = .ok (.invokevirtual ix, 3)) (hc : Ck own ix y ccy nLy rety 2) (hv : Vk y) (hR : fry + 1 ≤ fr ∧ 8 + (nLy + 11) + loy ≤ lo ∧ n + Ny ≤ N)
    (ht : kd t < 5 ∧ t < 13 ∧ (vwCl[kd t]?).map (fun q => q.1) = some y.cls) (hi : i < ctn t) (hcat : (rst.map fun v => (cv g v).category).sum ≤ 8) (hC : Cn g y ccy nLy rety fry loy Ny [vR t i, a1, a2] S (fun v S' => K (n + Ny) (pc + 3) L (pv v rst) S') (fun _ _ => False)) : K n pc L (a2 :: a1 :: vR t i :: rst) S := rk_callV M (As := [a1, a2]) d hc hv rfl hR ht hi hcat hC
theorem rk_callV3 (M : Mk g own cc nL fr lo N K) {y : MethodName} {ccy : ByteArray} {nLy fry loy Ny ix t i : Nat} {rety : Option FieldType} {a1 a2 a3 : AV} {rst : List AV} (d : decode cc pc = .ok (.invokevirtual ix, 3)) (hc : Ck own ix y ccy nLy rety 3) (hv : Vk y) (hR : fry + 1 ≤ fr ∧ 8 + (nLy + 11) + loy ≤ lo ∧ n + Ny ≤ N)
    (ht : kd t < 5 ∧ t < 13 ∧ (vwCl[kd t]?).map (fun q => q.1) = some y.cls) (hi : i < ctn t) (hcat : (rst.map fun v => (cv g v).category).sum ≤ 8) (hC : Cn g y ccy nLy rety fry loy Ny [vR t i, a1, a2, a3] S (fun v S' => K (n + Ny) (pc + 3) L (pv v rst) S') (fun _ _ => False)) : K n pc L (a3 :: a2 :: a1 :: vR t i :: rst) S := rk_callV M (As := [a1, a2, a3]) d hc hv rfl hR ht hi hcat hC
theorem rk_callS1 (M : Mk g own cc nL fr lo N K) {y : MethodName} {ccy : ByteArray} {nLy fry loy Ny ix : Nat} {rety : Option FieldType} {a1 : AV} {rst : List AV} (d : decode cc pc = .ok (.invokestatic ix, 3)) (hl : Cond.methodLink own ix y ∈ WT) (hst9 : Cond.static y ∈ WT) (how : y.cls = own) (hc : Ck own ix y ccy nLy rety 1) (hR : fry + 1 ≤ fr ∧ 8 + (nLy + 11) + loy ≤ lo ∧ n + Ny ≤ N)
    (hcat : (rst.map fun v => (cv g v).category).sum ≤ 8) (hC : Cn g y ccy nLy rety fry loy Ny [a1] S (fun v S' => K (n + Ny) (pc + 3) L (pv v rst) S') (fun _ _ => False)) : K n pc L (a1 :: rst) S := rk_callS M (As := [a1]) d hl hst9 how hc rfl hR hcat hC
theorem rk_callS2 (M : Mk g own cc nL fr lo N K) {y : MethodName} {ccy : ByteArray} {nLy fry loy Ny ix : Nat} {rety : Option FieldType} {a1 a2 : AV} {rst : List AV} (d : decode cc pc = .ok (.invokestatic ix, 3)) (hl : Cond.methodLink own ix y ∈ WT) (hst9 : Cond.static y ∈ WT) (how : y.cls = own) (hc : Ck own ix y ccy nLy rety 2) (hR : fry + 1 ≤ fr ∧ 8 + (nLy + 11) + loy ≤ lo ∧ n + Ny ≤ N)
    (hcat : (rst.map fun v => (cv g v).category).sum ≤ 8) (hC : Cn g y ccy nLy rety fry loy Ny [a1, a2] S (fun v S' => K (n + Ny) (pc + 3) L (pv v rst) S') (fun _ _ => False)) : K n pc L (a2 :: a1 :: rst) S := rk_callS M (As := [a1, a2]) d hl hst9 how hc rfl hR hcat hC
theorem rk_callS3 (M : Mk g own cc nL fr lo N K) {y : MethodName} {ccy : ByteArray} {nLy fry loy Ny ix : Nat} {rety : Option FieldType} {a1 a2 a3 : AV} {rst : List AV} (d : decode cc pc = .ok (.invokestatic ix, 3)) (hl : Cond.methodLink own ix y ∈ WT) (hst9 : Cond.static y ∈ WT) (how : y.cls = own) (hc : Ck own ix y ccy nLy rety 3) (hR : fry + 1 ≤ fr ∧ 8 + (nLy + 11) + loy ≤ lo ∧ n + Ny ≤ N)
    (hcat : (rst.map fun v => (cv g v).category).sum ≤ 8) (hC : Cn g y ccy nLy rety fry loy Ny [a1, a2, a3] S (fun v S' => K (n + Ny) (pc + 3) L (pv v rst) S') (fun _ _ => False)) : K n pc L (a3 :: a2 :: a1 :: rst) S := rk_callS M (As := [a1, a2, a3]) d hl hst9 how hc rfl hR hcat hC
theorem rk_callS4 (M : Mk g own cc nL fr lo N K) {y : MethodName} {ccy : ByteArray} {nLy fry loy Ny ix : Nat} {rety : Option FieldType} {a1 a2 a3 a4 : AV} {rst : List AV} (d : decode cc pc = .ok (.invokestatic ix, 3)) (hl : Cond.methodLink own ix y ∈ WT) (hst9 : Cond.static y ∈ WT) (how : y.cls = own) (hc : Ck own ix y ccy nLy rety 4) (hR : fry + 1 ≤ fr ∧ 8 + (nLy + 11) + loy ≤ lo ∧ n + Ny ≤ N)
    (hcat : (rst.map fun v => (cv g v).category).sum ≤ 8) (hC : Cn g y ccy nLy rety fry loy Ny [a1, a2, a3, a4] S (fun v S' => K (n + Ny) (pc + 3) L (pv v rst) S') (fun _ _ => False)) : K n pc L (a4 :: a3 :: a2 :: a1 :: rst) S := rk_callS M (As := [a1, a2, a3, a4]) d hl hst9 how hc rfl hR hcat hC
end KX
/-! ===== a method that reads the script ===== -/
section KCELL
def PrX (g : Gl) (av : List AV) (S : St) (sz b Ln : Nat) (xs : Nat → Int32) : Array Value → State → Prop := va_Pc (av.map (cv g)) (fun U => U.heap.size = sz ∧ GV g U ∧ Wd g S U.heap ∧ Zs (Ag g sz) U U.heap ∧ va_X b Ln xs U U.heap ∧ b < sz ∧ ∀ p, p ∈ prs → g.2.2.1 p.1 p.2 ≠ b)
theorem PrX_blind (g : Gl) (av : List AV) (S : St) (sz b Ln : Nat) (xs : Nat → Int32) : FrameBlind (PrX g av S sz b Ln xs) := fun a U f mk h => by
  obtain ⟨h1, h2, h3, h4, h5, h6⟩ := h
  have hal : U.vm.Alike (U.calling f mk a).vm := Vm.Alike.refl U.vm
  exact ⟨h1, h2, GV.same (u := U) rfl h3, h4, ⟨vx_Zq.moved hal h5.1, vx_Zq.moved hal h5.2⟩, va_X.moved hal h6.1, h6.2⟩
def MachX (g : Gl) (own : String) (cc : ByteArray) (nL : Nat) (ret : Option FieldType) (fr lo N : Nat) (Ret : Option AV → St → Prop) (Thr : String → St → Prop) (b Ln : Nat) (xs : Nat → Int32) (K : KT) : Prop :=
  ∃ (p : Program) (e : Env) (R : Room) (s : State) (m : MethodId) (args : Array Value) (below : List Frame) (meth : Method) (c : Code) (A : Nat → Prop), Ctx g own cc nL fr lo N p R s m args meth c A 0 0 ∧ (∀ x ∈ c.exceptionTable.toList, False) ∧ meth.sig.returnType = ret ∧ va_X b Ln xs s s.heap ∧ b < s.heap.size ∧ ¬ A b ∧ Ln < 2147483648 ∧
    ∀ n pc L st S, K n pc L st S ↔ Wk g nL N p e R s m args below meth c A 0 0 (vx_MQ below (Qr g Ret A) (XCr g Thr A) args s N (6 * N) A) n pc L st S
variable {g : Gl} {own : String} {cc : ByteArray} {nL fr lo N : Nat} {ret : Option FieldType} {Ret : Option AV → St → Prop} {Thr : String → St → Prop} {K : KT} {n pc : Nat} {L : List (Option AV)} {st : List AV} {S : St} {b Ln : Nat} {xs : Nat → Int32}
theorem MachX.mach (M : MachX g own cc nL ret fr lo N Ret Thr b Ln xs K) : Mach g own cc nL ret fr lo N Ret Thr K := by
  obtain ⟨p, e, R, s, m, args, below, meth, c, A, C, h1, h2, _, _, _, _, hK⟩ := M
  exact ⟨p, e, R, s, m, args, below, meth, c, A, C, h1, h2, hK⟩
theorem rx_len (M : MachX g own cc nL ret fr lo N Ret Thr b Ln xs K) (d : decode cc pc = .ok (.arraylength, 1)) (kk : K n (pc + 1) L (vI (Ln : Int) :: st) S) : K n pc L (vX b :: st) S := by
  obtain ⟨p, e, R, s, m, args, below, meth, c, A, C, h1, h2, hX, hbl, hbA, hLn, hK⟩ := M
  rw [hK] at kk ⊢
  intro hn H locs ls hW hS hL
  refine va_slen C.1 C.2.1 hX hbl hbA hS d ?_
  have e1 : Int32.ofNat Ln = Int32.ofInt (Ln : Int) := by
    rw [← Int32.toInt_inj, toI (by omega)]
    exact Int32.toInt_ofNat_of_lt hLn
  rw [e1]
  exact kk hn H locs ls hW hS hL
theorem rx_sld (M : MachX g own cc nL ret fr lo N Ret Thr b Ln xs K) {z : Int} (j : Nat) (d : decode cc pc = .ok (.iaload, 1)) (hz : z = (j : Int)) (hj : j < Ln) (kk : K n (pc + 1) L (vI (xs j).toInt :: st) S) : K n pc L (vI z :: vX b :: st) S := by
  obtain ⟨p, e, R, s, m, args, below, meth, c, A, C, h1, h2, hX, hbl, hbA, hLn, hK⟩ := M
  rw [hK] at kk ⊢
  intro hn H locs ls hW hS hL
  obtain ⟨e1, e2⟩ := ofI_clamp (j := z) (n := Ln) (by omega) (by omega)
  have e3 : z.toNat = j := by omega
  refine va_sld C.1 C.2.1 hX hbl hbA hS e2 d ?_
  rw [e1, e3]
  have k := kk hn H locs ls hW hS hL
  rw [List.map_cons, iv_cv] at k
  exact k
theorem enterX {y : MethodName} {av : List AV} (hy : plainName y.cls = true) (hlen : (lg_sl (av.map (cv g))).length ≤ nL) (hLL : lvl g L = lv_args 0 (av.map (cv g))) (hLn : Ln < 2147483648)
    (h : ∀ K : KT, MachX g y.cls cc nL ret fr lo N Ret Thr b Ln xs K → K 0 0 L [] S) (sz : Nat) : vx_Met g.1 y (Cond.code y cc nL ret :: WT) ({ frames := fr, cells := N, slots := 6 * N, locals := lo }) (PrX g av S sz b Ln xs) (Qr g Ret (Ag g sz)) (XCr g Thr (Ag g sz)) N (6 * N) (Ag g sz) := by
  refine vx_ofW (cc := cc) (maxL := nL) (ret := ret) hy rfl ?_
  intro p e s m args below meth c s₁ B hml hex hv
  obtain ⟨rfl, hsz, hG, hW, hZ, hX, hbz, hap⟩ := hv
  subst hsz
  have hts0 := atoms_spec (ws := Cond.code y cc nL ret :: WT) B.pre
  have C : Ctx g y.cls cc nL fr lo N p (headSpec (Cond.code y cc nL ret :: WT) ({ frames := fr, cells := N, slots := 6 * N, locals := lo })).room s m (av.map (cv g)).toArray meth c (Ag g s.heap.size) 0 0 :=
    ⟨B.exec, B.bytes, hml, findClass_of_methodNamed B.named, fun w hw => hts0 w (List.mem_cons_of_mem _ hw), hG, fun q hq => Or.inl ⟨q, hq, rfl⟩, fun q hq => Or.inr hq, hZ, B.notSynchronized, Nat.le_refl _, Nat.le_refl _, by show 0 + N ≤ N; omega, by show 0 + 6 * N ≤ 6 * N; omega⟩
  have hbA : ¬ Ag g s.heap.size b := fun q => by
    rcases q with ⟨p, hp, e⟩ | q
    · exact hap p hp e.symm
    · omega
  have k := h (Wk g nL N p e (headSpec (Cond.code y cc nL ret :: WT) ({ frames := fr, cells := N, slots := 6 * N, locals := lo })).room s m (av.map (cv g)).toArray below meth c (Ag g s.heap.size) 0 0 (vx_MQ below (Qr g Ret (Ag g s.heap.size)) (XCr g Thr (Ag g s.heap.size)) (av.map (cv g)).toArray s N (6 * N) (Ag g s.heap.size)))
    ⟨p, e, _, s, m, _, below, meth, c, _, C, fun x hx => (hex x hx).elim, B.returns, hX, hbz, hbA, hLn, fun _ _ _ _ _ => Iff.rfl⟩
  have hl := lv_entry (av.map (cv g)) (n := nL) hlen
  rw [lg_entry_eq]
  refine k (Nat.zero_le _) s.heap [] _ hW va_S.rf ⟨hl.1, hl.2.1, fun j v hj => ?_⟩
  exact hl.2.2 (j, cv g v) (by rw [← hLL]; exact lvl_mem.mpr ⟨v, hj, rfl⟩)
theorem cn_cell {z : Int} (hz : 0 ≤ z ∧ z ≤ 100000) (hLn : Ln < 2147483648) (sz : Nat) : vx_Met g.1 yL_cell (Cond.code yL_cell cL_cell 2 (some .int) :: WT) ({ frames := 0, cells := 0, slots := 6 * 0, locals := 0 }) (PrX g [vX b, vI z] S sz b Ln xs) (Qr g (fun v S' => S' = S ∧ ∃ w, v = some (vI w)) (Ag g sz)) (XCr g (fun _ _ => False) (Ag g sz)) 0 (6 * 0) (Ag g sz) := by
  refine enterX (L := [some (vX b), some (vI z)]) (by decide +kernel) (Nat.le_of_ble_eq_true rfl) rfl hLn (fun K MX => ?_) sz
  have MM := MX.mach
  have M := MM.mk
  refine r_iload_n M dL_cell_0 rfl ?_
  refine r_xload_n M dL_cell_1 rfl ?_
  refine rx_len MX dL_cell_2 ?_
  refine r_icmp_ge M dL_cell_3 (tgt := 12) rfl (by omega) (fun b3 => ?_) (fun b3 => ?_)
  · refine r_ldc M dL_cell_12 kc_L_7 (z := 836225459) rfl ?_
    refine r_iload_n M dL_cell_14 rfl ?_
    refine r_iconst M dL_cell_15 ?_
    refine r_iadd M dL_cell_16 ?_
    refine r_imul M dL_cell_17 ?_
    refine r_iret MM dL_cell_18 ⟨rfl, _, rfl⟩
  · refine r_xload_n M dL_cell_6 rfl ?_
    refine r_iload_n M dL_cell_7 rfl ?_
    refine rx_sld MX z.toNat dL_cell_8 (by omega) (by omega) ?_
    refine r_goto M dL_cell_9 (tgt := 18) rfl ?_
    refine r_iret MM dL_cell_18 ⟨rfl, _, rfl⟩
end KCELL
/-! ===== the law's own machine ===== -/
def R_law : String := "DefaultFundLaw"
def lw_P (b : Addr) (xs : List Int32) (args : Array Value) (s : State) : Prop := args = #[.ref b] ∧ s.IntsAt b xs ∧ xs.length ≤ 260 ∧ (Jvm.Cond.and given_1 narrow_1).before args s = true
def lw_Q (_ : Array Value) (s : State) (o : Outcome) (t : State) : Prop := o = .returned (some (.int 1)) ∧ Framed s o t [] 600130 7301080
def lw_Z (below : List Frame) (a : Array Value) (s : State) : State → Prop := fun t => ∃ o, t.status = .running ∧ Ended t below o ∧ lw_Q a s o t
/-- the law's own end, with 1 on the stack, nothing written that was there before, its room as the claim has it -/
theorem lw_ret {p : Program} {l : Launch} {e : Env} {s : State} {m : MethodId} {below : List Frame} {meth : Method} {c : Code} {b : Nat} (hx : p.tables.exec = Jvm.exec) (hb : c.code = code) (hr : meth.sig.returnType = ret) (hlocks : meth.locks = false) {pc : Nat} {H : Heap} {ls : Array Slot} (hdg : decode code pc = .ok (.ireturn, 1)) : W p l e room_1 s m #[Value.ref b] below meth c H [] 600130 7301080 (lw_Z below #[Value.ref b] s) (F0 m pc ls [.int 1]) := by
  intro T hT X
  obtain ⟨fs, hret, hrun, hended, hW, hframe⟩ := X.leave (v := some (.int 1)) (hlocks := hlocks) (fun h => by rw [hr] at h; cases h)
  have hmeth' : T.vm.method? m = some meth := X.method'
  refine ⟨T.setFrames fs, ?_, .returned (some (.int 1)), hrun, hended, rfl, ⟨_, rfl⟩, hW, hframe⟩
  jvm_step X.here [X.here.top, hx, hb, hdg, hmeth', hr, ret, narrow_b1]
  (try refine ⟨rfl, ?_⟩); (try refine ⟨rfl, ?_⟩)
  first | (intro acts; rw [hret _ acts rfl rfl rfl]) | rw [hret _ _ rfl rfl rfl]
  exact Steps.refl _
/-- what holds at the law's entry: the machine, the code, the tables' words (any of lw_tbl by 'hts w (by decide +kernel)'), the script of L ints xs at the cell b, what the Statement gives of the start (any of its parts by flat_of_before) -/
def lw_At (p : Program) (s : State) (m : MethodId) (meth : Method) (c : Code) (b L : Nat) (xs : Nat → Int32) : Prop :=
  p.tables.exec = Jvm.exec ∧ c.code = code ∧ meth.sig.returnType = ret ∧ c.maxLocals = 9 ∧ s.vm.findClass R_law = some m.cls ∧ (∀ w ∈ lw_tbl, w.before #[Value.ref b] s = true) ∧ va_X b L xs s s.heap ∧ b < s.heap.size ∧ meth.locks = false ∧ (Jvm.Cond.and given_1 narrow_1).before #[Value.ref b] s = true
section KLW
def MkW (g : Gl) (b Ln : Nat) (xs : Nat → Int32) (N : Nat) (K : KT) : Prop :=
  ∃ (p : Program) (e : Env) (s : State) (m : MethodId) (below : List Frame) (meth : Method) (c : Code) (c0 s0 : Nat), Ctx g RL cL_law 9 12 426 N p room_1 s m #[Value.ref b] meth c (fun q => s.heap.size ≤ q) c0 s0 ∧ meth.sig.returnType = ret ∧ va_X b Ln xs s s.heap ∧ b < s.heap.size ∧ Ln < 2147483648 ∧
    ∀ n pc L st S, K n pc L st S ↔ Wk g 9 N p e room_1 s m #[Value.ref b] below meth c (fun q => s.heap.size ≤ q) c0 s0 (lw_Z below #[Value.ref b] s) n pc L st S
variable {g : Gl} {b Ln : Nat} {xs : Nat → Int32} {N : Nat} {K : KT} {n pc : Nat} {L : List (Option AV)} {st : List AV} {S : St}
theorem MkW.mk (M : MkW g b Ln xs N K) : Mk g RL cL_law 9 12 426 N K := by
  obtain ⟨p, e, s, m, below, meth, c, c0, s0, C, _, _, _, _, hK⟩ := M
  exact ⟨p, e, room_1, s, m, _, below, meth, c, _, c0, s0, _, C, hK⟩
/-- the law's end, with true -/
theorem rw_ret (M : MkW g b Ln xs N K) (d : decode cL_law pc = .ok (.ireturn, 1)) : K n pc L [vI 1] S := by
  obtain ⟨p, e, s, m, below, meth, c, c0, s0, C, hr, hX, hbl, hLn, hK⟩ := M
  rw [hK]
  intro hn H locs ls hW hS hL
  have hR := C.2.2.2.2.2.2.2.2.2.2
  have h1 : room_1.cells = 600130 := rfl
  have h2 : room_1.slots = 7301080 := rfl
  refine va_forget (fun q hq => hS.2.2 q hq) ?_
  refine W.widen (k := 600130) (n := 7301080) (by omega) (by omega) ?_
  exact lw_ret C.1 C.2.1 hr C.2.2.2.2.2.2.2.2.2.1 d
/-- an int of the script, or of its own where there is none -/
theorem rw_cell (M : MkW g b Ln xs N K) {z : Int} (hz : 0 ≤ z ∧ z ≤ 100000) (hn1 : n ≤ N) (d : decode cL_law pc = .ok (.invokestatic 75, 3)) (hcat : (st.map fun v => (cv g v).category).sum ≤ 8) (kk : ∀ w : Int, K n (pc + 3) L (vI w :: st) S) : K n pc L (vI z :: vX b :: st) S := by
  obtain ⟨p, e, s, m, below, meth, c, c0, s0, C, hr, hX, hbl, hLn, hK⟩ := M
  rw [hK]
  intro hn H locs ls hW hS hL
  have hR1 := C.2.2.2.2.2.2.2.2.2.2
  have hcat2 : ((st.map (cv g)).map fun v => v.category).sum ≤ 8 := by rw [List.map_map]; exact hcat
  obtain ⟨hk1, hk2, hk3, hk4, hk5⟩ := ck_L_75
  have hfix : CallFix p m c cL_law 9 s #[Value.ref b] WT RL := ⟨C.1, C.2.1, C.2.2.1, C.2.2.2.1, C.2.2.2.2.1⟩
  have hpre := pre_of C hW hS [vX b, vI z]
  have hrun : vx_Run p g.1 e room_1 s m #[Value.ref b] below meth c H locs (c0 + n) (s0 + 6 * n) 0 (6 * 0) (F0 m pc ls ((vI z :: vX b :: st).map (cv g))) (st.map (cv g)) (Qr g (fun v S' => S' = S ∧ ∃ w, v = some (vI w)) (Ag g H.size) (([vX b, vI z] : List AV).map (cv g)).toArray) (XCr g (fun _ _ => False) (Ag g H.size)) (Ag g H.size) :=
    vx_runS (As := ([vX b, vI z] : List AV).map (cv g)) hfix (cn_cell (g := g) (S := S) (b := b) (Ln := Ln) (xs := xs) hz hLn H.size) (cwS 2 C.2.2.2.2.1 (wt_good (fun w hw => by
        rcases List.mem_append.mp hw with hw | hw
        · simp only [List.mem_cons, List.not_mem_nil, or_false] at hw
          rcases hw with rfl | rfl | rfl
          · exact sl_L_75
          · exact st_L_cell
          · exact hk2
        · exact (wt_code hk3 w hw).1)) rfl rfl rfl ⟨rfl, hk4.1, hk4.2, hk5⟩ ⟨by show 0 + 1 ≤ _; omega, by show 8 + (2 + 11) + 0 ≤ _; omega⟩)
      ⟨PrX_blind g _ S _ b Ln xs, fun U hU hWU => by
        obtain ⟨q1, q2, q3, q4, q5⟩ := hpre U hU hWU
        refine ⟨q1, q2, q3, q4, q5, ?_, Nat.lt_of_lt_of_le hbl hS.1, fun p hp => ?_⟩
        · rw [hU]
          exact va_X.moved hWU.alike (va_X.kept hX (hS.2.1 b hbl (Nat.not_le.mpr hbl)))
        · have := C.2.2.2.2.2.2.1 p hp
          intro q
          rw [q] at this
          exact absurd this (Nat.not_le.mpr hbl)⟩ rfl rfl (hL.1) rfl (lv_room hcat2) d ⟨by omega, by omega⟩
  refine run_core (Ny := 0) C hS hrun (fun E ce q9 S' H1 locs1 hE => hE.elim) (fun v S' H1 locs1 hk hW1 hS1 => ?_)
  obtain ⟨rfl, w, rfl⟩ := hk
  rw [pv_map]
  exact (hK _ _ _ _ _).mp (kk w) hn1 H1 locs1 ls hW1 hS1 hL
end KLW
