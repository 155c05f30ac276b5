/-! ===== calls by the number of arguments; reads with a value; loops ===== -/
section KM
variable {g : Gl} {own : String} {cc : ByteArray} {nL fr lo N : Nat} {ret : Option FieldType} {Ret : Option AV → St → Prop} {Thr : String → St → Prop} {K : KT} {n pc : Nat} {L : List (Option AV)} {st : List AV} {S : St}
theorem r_getV (M : Mk g own cc nL fr lo N K) {ix t k i : Nat} (d : decode cc pc = .ok (.getfield ix, 3)) (hF : Fk own ix t k) (hi : i < ctn t) (hr : rfp t k = none) (v : Int) (hv : S t i k = v) (kk : K n (pc + 3) L (vI v :: st) S) : K n pc L (vR t i :: st) S := by
  subst hv
  exact r_getI M d hF hi hr kk
theorem r_ialdV (M : Mk g own cc nL fr lo N K) {t i : Nat} {z : Int} (j : Nat) (d : decode cc pc = .ok (.iaload, 1)) (ht : kd t = 5 ∧ t < 13) (hi : i < ctn t) (hz : z = (j : Int)) (hj : j < nf t) (hnf : nf t ≤ 2147483647) (v : Int) (hv : S t i j = v) (kk : K n (pc + 1) L (vI v :: st) S) : K n pc L (vI z :: vR t i :: st) S := by
  subst hv
  exact r_iald M j d ht hi hz hj hnf kk
theorem k_S {S1 S2 : St} (h : K n pc L st S1) (e : S2 = S1) : K n pc L st S2 := e ▸ h
theorem k_St {st2 : List AV} (h : K n pc L st S) (e : st2 = st) : K n pc L st2 S := e ▸ h
theorem ret_S {v : Option AV} {S1 S2 : St} (h : Ret v S1) (e : S2 = S1) : Ret v S2 := e ▸ h
theorem ret_v {v w : Option AV} (h : Ret v S) (e : w = v) : Ret w S := e ▸ h
theorem ret_vS {v w : Option AV} {S1 S2 : St} (h : Ret v S1) (ev : w = v) (e : S2 = S1) : Ret w S2 := by
  subst ev; subst e
  exact h
theorem up_loop {P : Nat → Prop} {m : Nat} (hx : P m) (hs : ∀ l, l < m → P (l + 1) → P l) : ∀ l, l ≤ m → P l := by
  have h : ∀ r l, l + r = m → P l := by
    intro r
    induction r with
    | zero => intro l hl; rw [show l = m by omega]; exact hx
    | succ r ih => intro l hl; exact hs l (by omega) (ih (l + 1) (by omega))
  intro l hl
  exact h (m - l) l (by omega)
/-- a loop that may end early: P is kept while the test fails -/
theorem fz {P : Nat → Prop} {m : Nat} (hx : P m) (hs : ∀ l, l < m → P (l + 1) → P l) : P 0 := up_loop hx hs 0 (Nat.zero_le _)
theorem r_callV0 (M : Mach g own cc nL ret fr lo N Ret Thr K) {y : MethodName} {ccy : ByteArray} {nLy fry loy Ny ix t i : Nat} {rety : Option FieldType} {rst : List AV} (d : decode cc pc = .ok (.invokevirtual ix, 3)) (hc : Ck own ix y ccy nLy rety 0) (hv : Vk y) (hR : fry + 1 ≤ fr ∧ 8 + (nLy + 11) + loy ≤ lo ∧ n + Ny ≤ N)
    (ht : kd t < 5 ∧ t < 13 ∧ (vwCl[kd t]?).map (fun q => q.1) = some y.cls) (hi : i < ctn t) (hcat : (rst.map fun v => (cv g v).category).sum ≤ 8) (hC : Cn g y ccy nLy rety fry loy Ny [vR t i] S (fun v S' => K (n + Ny) (pc + 3) L (pv v rst) S') Thr) : K n pc L (vR t i :: rst) S := r_callV M (As := []) d hc hv rfl hR ht hi hcat hC
theorem r_callV1 (M : Mach g own cc nL ret fr lo N Ret Thr K) {y : MethodName} {ccy : ByteArray} {nLy fry loy Ny ix t i : Nat} {rety : Option FieldType} {a : AV} {rst : List AV} (d : decode cc pc = .ok (.invokevirtual ix, 3)) (hc : Ck own ix y ccy nLy rety 1) (hv : Vk y) (hR : fry + 1 ≤ fr ∧ 8 + (nLy + 11) + loy ≤ lo ∧ n + Ny ≤ N)
    (ht : kd t < 5 ∧ t < 13 ∧ (vwCl[kd t]?).map (fun q => q.1) = some y.cls) (hi : i < ctn t) (hcat : (rst.map fun v => (cv g v).category).sum ≤ 8) (hC : Cn g y ccy nLy rety fry loy Ny [vR t i, a] S (fun v S' => K (n + Ny) (pc + 3) L (pv v rst) S') Thr) : K n pc L (a :: vR t i :: rst) S := r_callV M (As := [a]) d hc hv rfl hR ht hi hcat hC
theorem r_callS1 (M : Mach g own cc nL ret fr lo N Ret Thr K) {y : MethodName} {ccy : ByteArray} {nLy fry loy Ny ix : Nat} {rety : Option FieldType} {a : AV} {rst : List AV} (d : decode cc pc = .ok (.invokestatic ix, 3)) (hl : Cond.methodLink own ix y ∈ WT) (hst9 : Cond.static y ∈ WT) (how : y.cls = own) (hc : Ck own ix y ccy nLy rety 1) (hR : fry + 1 ≤ fr ∧ 8 + (nLy + 11) + loy ≤ lo ∧ n + Ny ≤ N)
    (hcat : (rst.map fun v => (cv g v).category).sum ≤ 8) (hC : Cn g y ccy nLy rety fry loy Ny [a] S (fun v S' => K (n + Ny) (pc + 3) L (pv v rst) S') Thr) : K n pc L (a :: rst) S := r_callS M (As := [a]) d hl hst9 how hc rfl hR hcat hC
theorem r_callV2 (M : Mach g own cc nL ret fr lo N Ret Thr K) {y : MethodName} {ccy : ByteArray} {nLy fry loy Ny ix t i : Nat} {rety : Option FieldType} {a b : AV} {rst : List AV} (d : decode cc pc = .ok (.invokevirtual ix, 3)) (hc : Ck own ix y ccy nLy rety 2) (hv : Vk y) (hR : fry + 1 ≤ fr ∧ 8 + (nLy + 11) + loy ≤ lo ∧ n + Ny ≤ N)
    (ht : kd t < 5 ∧ t < 13 ∧ (vwCl[kd t]?).map (fun q => q.1) = some y.cls) (hi : i < ctn t) (hcat : (rst.map fun v => (cv g v).category).sum ≤ 8) (hC : Cn g y ccy nLy rety fry loy Ny [vR t i, a, b] S (fun v S' => K (n + Ny) (pc + 3) L (pv v rst) S') Thr) : K n pc L (b :: a :: vR t i :: rst) S := r_callV M (As := [a, b]) d hc hv rfl hR ht hi hcat hC
theorem r_callS2 (M : Mach g own cc nL ret fr lo N Ret Thr K) {y : MethodName} {ccy : ByteArray} {nLy fry loy Ny ix : Nat} {rety : Option FieldType} {a b : AV} {rst : List AV} (d : decode cc pc = .ok (.invokestatic ix, 3)) (hl : Cond.methodLink own ix y ∈ WT) (hst9 : Cond.static y ∈ WT) (how : y.cls = own) (hc : Ck own ix y ccy nLy rety 2) (hR : fry + 1 ≤ fr ∧ 8 + (nLy + 11) + loy ≤ lo ∧ n + Ny ≤ N)
    (hcat : (rst.map fun v => (cv g v).category).sum ≤ 8) (hC : Cn g y ccy nLy rety fry loy Ny [a, b] S (fun v S' => K (n + Ny) (pc + 3) L (pv v rst) S') Thr) : K n pc L (b :: a :: rst) S := r_callS M (As := [a, b]) d hl hst9 how hc rfl hR hcat hC
theorem r_callV3 (M : Mach g own cc nL ret fr lo N Ret Thr K) {y : MethodName} {ccy : ByteArray} {nLy fry loy Ny ix t i : Nat} {rety : Option FieldType} {a b c9 : AV} {rst : List AV} (d : decode cc pc = .ok (.invokevirtual ix, 3)) (hc : Ck own ix y ccy nLy rety 3) (hv : Vk y) (hR : fry + 1 ≤ fr ∧ 8 + (nLy + 11) + loy ≤ lo ∧ n + Ny ≤ N)
    (ht : kd t < 5 ∧ t < 13 ∧ (vwCl[kd t]?).map (fun q => q.1) = some y.cls) (hi : i < ctn t) (hcat : (rst.map fun v => (cv g v).category).sum ≤ 8) (hC : Cn g y ccy nLy rety fry loy Ny [vR t i, a, b, c9] S (fun v S' => K (n + Ny) (pc + 3) L (pv v rst) S') Thr) : K n pc L (c9 :: b :: a :: vR t i :: rst) S := r_callV M (As := [a, b, c9]) d hc hv rfl hR ht hi hcat hC
theorem r_callS3 (M : Mach g own cc nL ret fr lo N Ret Thr K) {y : MethodName} {ccy : ByteArray} {nLy fry loy Ny ix : Nat} {rety : Option FieldType} {a b c9 : AV} {rst : List AV} (d : decode cc pc = .ok (.invokestatic ix, 3)) (hl : Cond.methodLink own ix y ∈ WT) (hst9 : Cond.static y ∈ WT) (how : y.cls = own) (hc : Ck own ix y ccy nLy rety 3) (hR : fry + 1 ≤ fr ∧ 8 + (nLy + 11) + loy ≤ lo ∧ n + Ny ≤ N)
    (hcat : (rst.map fun v => (cv g v).category).sum ≤ 8) (hC : Cn g y ccy nLy rety fry loy Ny [a, b, c9] S (fun v S' => K (n + Ny) (pc + 3) L (pv v rst) S') Thr) : K n pc L (c9 :: b :: a :: rst) S := r_callS M (As := [a, b, c9]) d hl hst9 how hc rfl hR hcat hC
end KM
