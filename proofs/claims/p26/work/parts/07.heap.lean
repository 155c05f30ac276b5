/-! ===== rows over the world: fields, arrays, the two of Math ===== -/
section KH
variable {g : Gl} {own : String} {cc : ByteArray} {nL fr lo N : Nat} {K : KT} {n pc : Nat} {L : List (Option AV)} {st : List AV} {S : St}
def Lk (own : String) (ix : Nat) (a b d : String) : Prop := (Cond.fieldLink own ix a b d ∈ WT) ∨ ∃ host, Cond.fieldLinkNest own ix a b d host ∈ NW
def Fk (own : String) (ix t k : Nat) : Prop := kd t < 5 ∧ t < 13 ∧ k < nf t ∧ ∃ (C : String) (T : u_T), vwCl[kd t]? = some (C, T, nf t) ∧ (∀ w ∈ u_ws C T (nf t), w ∈ WT) ∧ Lk own ix (T k).1 (T k).2.1 (T k).2.2.1
def Pk (own : String) (ix t k : Nat) (ty : FieldType) : Prop := kd t < 5 ∧ t < 13 ∧ k < nf t ∧ rfp t k = none ∧ ∃ (C : String) (T : u_T) (ty0 : Nat → FieldType), vwCl[kd t]? = some (C, T, nf t) ∧ (∀ w ∈ u_ws C T (nf t), w ∈ WT) ∧ Lk own ix (T k).1 (T k).2.1 (T k).2.2.1 ∧
  (∀ k, k < nf t → parseFieldDescriptor (T k).2.2.1 = some (ty0 k)) ∧ (∀ a, a < nf t → ∀ b, b < nf t → a ≠ b → (T a).2.1 ≠ (T b).2.1) ∧ (T k).2.2.2 = false ∧ parseFieldDescriptor (T k).2.2.1 = some ty
theorem r_get (M : Mk g own cc nL fr lo N K) {ix t k i : Nat} (d : decode cc pc = .ok (.getfield ix, 3)) (hF : Fk own ix t k) (hi : i < ctn t) {v : AV} (hv : slt g t i k (S t i k) = cv g v) (kk : K n (pc + 3) L (v :: st) S) : K n pc L (vR t i :: st) S :=
  M.go (fun p e R s m args below meth c A c0 s0 Q C H locs ls hW hS hL hn kk => by
    obtain ⟨h1, h2, h3, C9, T, hc, hw, hl⟩ := hF
    obtain ⟨q, hq, he⟩ := wl_get g S h2 hi
    rw [en_obj g i _ h1] at he
    have hv2 := (slots_get (n := nf t) (fun k => slt g t i k (S t i k)) h3).trans (congrArg some hv)
    rcases hl with hl | ⟨host, hl⟩
    · exact va_get (D := g.2.1) C.1 C.2.1 C.2.2.2.2.1 hw C.2.2.2.1 C.2.2.2.2.2.1.2.1 hW q he hc k h3 (C.2.2.2.2.1 _ hl) (fun _ h => h) hv2 d (kk ls hL)
    · exact va_getN (D := g.2.1) C.1 C.2.1 C.2.2.2.2.1 hw C.2.2.2.1 C.2.2.2.2.2.1.2.1 hW q he hc k h3 (va_Nw.use rfl (C.2.2.2.2.2.1.1 _ hl)) (fun _ h => h) hv2 d (kk ls hL)) kk
theorem r_getI (M : Mk g own cc nL fr lo N K) {ix t k i : Nat} (d : decode cc pc = .ok (.getfield ix, 3)) (hF : Fk own ix t k) (hi : i < ctn t) (hr : rfp t k = none) (kk : K n (pc + 3) L (vI (S t i k) :: st) S) : K n pc L (vR t i :: st) S :=
  r_get M d hF hi (by unfold slt; rw [hr]; rfl) kk
theorem r_getR (M : Mk g own cc nL fr lo N K) {ix t k i u : Nat} (d : decode cc pc = .ok (.getfield ix, 3)) (hF : Fk own ix t k) (hi : i < ctn t) (hr : rfp t k = some u) (kk : K n (pc + 3) L (vR u i :: st) S) : K n pc L (vR t i :: st) S :=
  r_get M d hF hi (by unfold slt; rw [hr]; rfl) kk
/-- one cell of the world is written -/
theorem wd_set {H1 : Heap} {t i q : Nat} (hq : prs[q]? = some (t, i)) {f : Nat → Int} {x : va_E} (hx : x = en g t i f) (h : va_P g.2.1 vwCl ((wl g S).set q (g.2.2.1 t i, x)) H1) : Wd g (upT S t i f) H1 := by
  subst hx
  rw [wl_set g S hq] at h
  exact h
theorem r_put (M : Mk g own cc nL fr lo N K) {ix t k i : Nat} {ty : FieldType} {x : Int} (d : decode cc pc = .ok (.putfield ix, 3)) (hF : Pk own ix t k ty) (hi : i < ctn t) (hn1 : narrow ty (.int (Int32.ofInt x)) = .int (Int32.ofInt x)) (hfit : fits ty (.int (Int32.ofInt x)) = true) (kk : K n (pc + 3) L st (up3 S t i k x)) : K n pc L (vI x :: vR t i :: st) S := by
  obtain ⟨p, e, R, s, m, args, below, meth, c, A, c0, s0, Q, C, hK⟩ := M
  rw [hK] at kk ⊢
  intro hn H locs ls hW hS hL
  obtain ⟨h1, h2, h3, hr, C9, T, ty0, hc, hw, hl, hty, hnm, hfin, hd⟩ := hF
  obtain ⟨q, hq, he⟩ := wl_get g S h2 hi
  rw [en_obj g i _ h1] at he
  have hD := Apt.D C.2.2.2.2.2.1.2.2.2.2.1 C.2.2.2.2.2.2.1 S
  have hset : ((List.range (nf t)).map fun k => slt g t i k (S t i k)).set k (.int (Int32.ofInt x)) = (List.range (nf t)).map fun c => slt g t i c (if c = k then x else S t i c) := by
    have e1 := slots_set (n := nf t) (k := k) (fun c => slt g t i c (S t i c)) (fun c => slt g t i c (if c = k then x else S t i c)) (fun j hj => by simp only [if_neg hj])
    rw [← e1]
    congr 1
    unfold slt
    rw [hr]
    simp
  have go : ∀ (H1 : Heap) (locs1 : List Loc), va_P g.2.1 vwCl ((wl g S).set q (g.2.2.1 t i, .inr (kd t, ((List.range (nf t)).map fun k => slt g t i k (S t i k)).set k (.int (Int32.ofInt x))))) H1 → va_D A ((wl g S).set q (g.2.2.1 t i, .inr (kd t, ((List.range (nf t)).map fun k => slt g t i k (S t i k)).set k (.int (Int32.ofInt x))))) → va_S A s.heap H1 locs1 → W p g.1 e R s m args below meth c H1 locs1 (c0 + n) (s0 + 6 * n) Q (F0 m (pc + 3) ls (st.map (cv g))) := fun H1 locs1 hP1 _ hS1 => by
    have hW1 := wd_set (f := fun c => if c = k then x else S t i c) hq (by rw [en_obj g i _ h1, hset]) hP1
    rw [← up3_T] at hW1
    exact kk hn H1 locs1 ls hW1 hS1 hL
  rcases hl with hl | ⟨host, hl⟩
  · exact va_put (D := g.2.1) (v := .int (Int32.ofInt x)) C.1 C.2.1 C.2.2.2.2.1 hw ty0 hty hnm C.2.2.2.1 C.2.2.2.2.2.1.2.1 hW hD hS q he hc k h3 (C.2.2.2.2.1 _ hl) (fun _ h => h) hfin hd hn1 hfit (by rw [List.length_map, List.length_range]; exact h3) d go
  · exact va_putN (D := g.2.1) (v := .int (Int32.ofInt x)) C.1 C.2.1 C.2.2.2.2.1 hw ty0 hty hnm C.2.2.2.1 C.2.2.2.2.2.1.2.1 hW hD hS q he hc k h3 (va_Nw.use rfl (C.2.2.2.2.2.1.1 _ hl)) (fun _ h => h) hfin hd hn1 hfit (by rw [List.length_map, List.length_range]; exact h3) d go
theorem r_putI (M : Mk g own cc nL fr lo N K) {ix t k i : Nat} {x : Int} (d : decode cc pc = .ok (.putfield ix, 3)) (hF : Pk own ix t k .int) (hi : i < ctn t) (kk : K n (pc + 3) L st (up3 S t i k x)) : K n pc L (vI x :: vR t i :: st) S :=
  r_put M d hF hi rfl rfl kk
theorem r_putZ (M : Mk g own cc nL fr lo N K) {ix t k i : Nat} {x : Int} (d : decode cc pc = .ok (.putfield ix, 3)) (hF : Pk own ix t k .boolean) (hi : i < ctn t) (hx : x = 0 ∨ x = 1) (kk : K n (pc + 3) L st (up3 S t i k x)) : K n pc L (vI x :: vR t i :: st) S :=
  r_put M d hF hi (by rcases hx with rfl | rfl <;> rfl) (by rcases hx with rfl | rfl <;> rfl) kk
theorem r_iald (M : Mk g own cc nL fr lo N K) {t i : Nat} {z : Int} (j : Nat) (d : decode cc pc = .ok (.iaload, 1)) (ht : kd t = 5 ∧ t < 13) (hi : i < ctn t) (hz : z = (j : Int)) (hj : j < nf t) (hnf : nf t ≤ 2147483647) (kk : K n (pc + 1) L (vI (S t i j) :: st) S) : K n pc L (vI z :: vR t i :: st) S :=
  M.go (fun p e R s m args below meth c A c0 s0 Q C H locs ls hW hS hL hn kk => by
    obtain ⟨q, hq, he⟩ := wl_get g S ht.2 hi
    rw [en_int g i _ ht.1] at he
    obtain ⟨e1, e2⟩ := ofI_clamp (j := z) (n := nf t) (by omega) hnf
    have e3 : z.toNat = j := by omega
    refine va_iald (D := g.2.1) C.1 C.2.1 C.2.2.2.2.2.1.2.1 hW q 0 he rfl e2 d ?_
    rw [e1, e3]
    exact kk ls hL) kk
theorem upT_up3 (S : St) (t i j : Nat) (x : Int) : upT S t i (fun c => if c = j then x else S t i c) = up3 S t i j x := (up3_T S t i j x).symm
theorem r_iast (M : Mk g own cc nL fr lo N K) {t i : Nat} {z x : Int} (j : Nat) (d : decode cc pc = .ok (.iastore, 1)) (ht : kd t = 5 ∧ t < 13) (hi : i < ctn t) (hz : z = (j : Int)) (hj : j < nf t) (hnf : nf t ≤ 2147483647) (kk : K n (pc + 1) L st (up3 S t i j x)) : K n pc L (vI x :: vI z :: vR t i :: st) S := by
  obtain ⟨p, e, R, s, m, args, below, meth, c, A, c0, s0, Q, C, hK⟩ := M
  rw [hK] at kk ⊢
  intro hn H locs ls hW hS hL
  obtain ⟨q, hq, he⟩ := wl_get g S ht.2 hi
  rw [en_int g i _ ht.1] at he
  obtain ⟨e1, e2⟩ := ofI_clamp (j := z) (n := nf t) (by omega) hnf
  have e3 : z.toNat = j := by omega
  have hD := Apt.D C.2.2.2.2.2.1.2.2.2.2.1 C.2.2.2.2.2.2.1 S
  refine va_iast (D := g.2.1) C.1 C.2.1 C.2.2.2.2.2.1.2.1 hW hD hS q 0 he rfl e2 d (fun H1 locs1 hP1 _ hS1 => ?_)
  have hW1 := wd_set (f := fun c => if c = j then x else S t i c) hq (by
    rw [en_int g i _ ht.1, e1, e3]
    congr 4
    funext c
    unfold upd
    by_cases hc : c = j <;> simp [hc]) hP1
  rw [← up3_T] at hW1
  exact kk hn H1 locs1 ls hW1 hS1 hL
theorem r_aaldM (M : Mk g own cc nL fr lo N K) {z : Int} (j : Nat) (d : decode cc pc = .ok (.aaload, 1)) (hz : z = (j : Int)) (hj : j < 10) (kk : K n (pc + 1) L (vR 4 j :: st) S) : K n pc L (vI z :: vR 1 0 :: st) S :=
  M.go (fun p e R s m args below meth c A c0 s0 Q C H locs ls hW hS hL hn kk => by
    obtain ⟨q, hq, he⟩ := wl_get g S (t := 1) (i := 0) (by omega) (by decide)
    rw [en_ref g 0 _ rfl] at he
    obtain ⟨e1, e2⟩ := ofI_clamp (j := z) (n := 10) (by omega) (by omega)
    have e3 : z.toNat = j := by omega
    refine va_aldq (D := g.2.1) C.1 C.2.1 C.2.2.2.2.2.1.2.1 hW q 1 he rfl e2 d ?_
    rw [e1, e3]
    exact kk ls hL) kk
theorem kw_alda {p : Program} {l : Launch} {e : Env} {R : Room} {s : State} {m : MethodId} {args : Array Value} {below : List Frame} {meth : Method} {c : Code} {H : Heap} {locs : List Loc} {cells slots : Nat} {Q : State → Prop} {cc : ByteArray} {pc : Nat} {ls : Array Slot} {rest : List Value} {D : va_G} {cl : List vw_C} {a : Nat} {tys : List (ClassId × FieldType)} {ws : va_W} (hexec : p.tables.exec = Jvm.exec) (hb : c.code = cc) (hK : va_K D cl tys s) (hP : va_P D cl ws H) (q0 t0 : Nat) {cA : ClassId} {ty : FieldType} {n : Nat} {f : Nat → Option Nat} (ha : ws[q0]? = some (a, .inl (cA, n, .inr (.inr (.inr (.inr f)))))) (ht : tys[t0]? = some (cA, .array ty)) {i : Int32} (hin : vp_in i n) (hdg : decode cc pc = .ok (.aaload, 1))
    (kk : W p l e R s m args below meth c H locs cells slots Q (F0 m (pc + 1) ls (va_rf (f i.toNatClampNeg) :: rest))) : W p l e R s m args below meth c H locs cells slots Q (F0 m pc ls (.int i :: .ref a :: rest)) := by
  have hlt : i.toNatClampNeg < n := Nat.not_le.mp fun q => hin (Or.inr q)
  exact W.aald (v := va_rf (f i.toNatClampNeg)) (ty := .array ty) hexec hb (hP q0 _ ha) ((hK.2 t0 _ ht).1 n (fun j => va_rf (f j))) rfl (fun q => by cases q) (by show ¬ (i < 0 ∨ (arrV _ _ _).slots.size ≤ _); rw [arrV_size]; exact hin) (by show (arrV _ _ _).slots[_]? = _; rw [arrV_read _ _ hlt]) rfl rfl hdg kk
theorem r_aaldB (M : Mk g own cc nL fr lo N K) {z : Int} (j : Nat) (d : decode cc pc = .ok (.aaload, 1)) (hz : z = (j : Int)) (hj : j < 10) (kk : K n (pc + 1) L (vR 7 j :: st) S) : K n pc L (vI z :: vR 6 0 :: st) S :=
  M.go (fun p e R s m args below meth c A c0 s0 Q C H locs ls hW hS hL hn kk => by
    obtain ⟨q, hq, he⟩ := wl_get g S (t := 6) (i := 0) (by omega) (by decide)
    rw [en_ref g 0 _ rfl] at he
    obtain ⟨e1, e2⟩ := ofI_clamp (j := z) (n := 10) (by omega) (by omega)
    have e3 : z.toNat = j := by omega
    refine kw_alda (D := g.2.1) C.1 C.2.1 C.2.2.2.2.2.1.2.1 hW q 2 he rfl e2 d ?_
    rw [e1, e3]
    exact kk ls hL) kk
def Mx (own : String) (ix : Nat) : Prop := Cond.methodLink own ix Lib.Math.max.name ∈ WT ∧ Cond.static Lib.Math.max.name ∈ WT ∧ Cond.initialized "java/lang/Math" ∈ WT ∧ Cond.code Lib.Math.max.name Lib.Math.max.code 2 (some .int) ∈ WT
def Mn (own : String) (ix : Nat) : Prop := Cond.methodLink own ix Lib.Math.min.name ∈ WT ∧ Cond.static Lib.Math.min.name ∈ WT ∧ Cond.initialized "java/lang/Math" ∈ WT ∧ Cond.code Lib.Math.min.name Lib.Math.min.code 2 (some .int) ∈ WT
theorem r_max (M : Mk g own cc nL fr lo N K) {ix : Nat} {a b : Int} (d : decode cc pc = .ok (.invokestatic ix, 3)) (hw : Mx own ix) (h : (-2147483648 ≤ a ∧ a ≤ 2147483647) ∧ -2147483648 ≤ b ∧ b ≤ 2147483647) (hR : 1 ≤ fr ∧ 21 ≤ lo) (hcat : (st.map fun v => (cv g v).category).sum ≤ 8) (kk : K n (pc + 3) L (vI (max a b) :: st) S) : K n pc L (vI b :: vI a :: st) S :=
  M.go (fun p e R s m args below meth c A c0 s0 Q C H locs ls hW hS hL hn kk => by
    have hc2 : ((st.map (cv g)).map fun v => v.category).sum ≤ 8 := by rw [List.map_map]; exact hcat
    have hR1 := C.2.2.2.2.2.2.2.2.2.2
    refine va_mmax C.1 C.2.1 (by rw [C.2.2.1]; exact hL.1.symm) C.2.2.2.1 (C.2.2.2.2.1 _ hw.1) (C.2.2.2.2.1 _ hw.2.1) (C.2.2.2.2.1 _ hw.2.2.1) (C.2.2.2.2.1 _ hw.2.2.2) (by omega) (by omega) (by omega) (by omega) d ?_
    have e1 : (if Int32.ofInt a < Int32.ofInt b then Int32.ofInt b else Int32.ofInt a) = Int32.ofInt (max a b) := by
      by_cases q : a < b
      · rw [if_pos ((ofI_lt h.1 h.2).mpr q)]; congr 1; omega
      · rw [if_neg (fun w => q ((ofI_lt h.1 h.2).mp w))]; congr 1; omega
    rw [e1]
    exact kk ls hL) kk
theorem r_min (M : Mk g own cc nL fr lo N K) {ix : Nat} {a b : Int} (d : decode cc pc = .ok (.invokestatic ix, 3)) (hw : Mn own ix) (h : (-2147483648 ≤ a ∧ a ≤ 2147483647) ∧ -2147483648 ≤ b ∧ b ≤ 2147483647) (hR : 1 ≤ fr ∧ 21 ≤ lo) (hcat : (st.map fun v => (cv g v).category).sum ≤ 8) (kk : K n (pc + 3) L (vI (min a b) :: st) S) : K n pc L (vI b :: vI a :: st) S :=
  M.go (fun p e R s m args below meth c A c0 s0 Q C H locs ls hW hS hL hn kk => by
    have hc2 : ((st.map (cv g)).map fun v => v.category).sum ≤ 8 := by rw [List.map_map]; exact hcat
    have hR1 := C.2.2.2.2.2.2.2.2.2.2
    refine va_mmin C.1 C.2.1 (by rw [C.2.2.1]; exact hL.1.symm) C.2.2.2.1 (C.2.2.2.2.1 _ hw.1) (C.2.2.2.2.1 _ hw.2.1) (C.2.2.2.2.1 _ hw.2.2.1) (C.2.2.2.2.1 _ hw.2.2.2) (by omega) (by omega) (by omega) (by omega) d ?_
    have e2 : (if Int32.ofInt b < Int32.ofInt a then Int32.ofInt b else Int32.ofInt a) = Int32.ofInt (min a b) := by
      by_cases q : b < a
      · rw [if_pos ((ofI_lt h.2 h.1).mpr q)]; congr 1; omega
      · rw [if_neg (fun w => q ((ofI_lt h.2 h.1).mp w))]; congr 1; omega
    rw [e2]
    exact kk ls hL) kk
end KH
