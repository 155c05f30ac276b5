/-! ===== BEGIN words of one list among another's, by their places ===== -/
theorem goodIn_r {big : List Cond} (ws : List Cond) (ps : List Nat) (hp : ws = ps.filterMap (fun i => big[i]?)) (h : ws.all goodWord = true) : GoodIn big ws := by
  intro w hw
  have h1 := List.all_eq_true.mp h w hw
  rw [hp] at hw
  obtain ⟨i, -, hi⟩ := List.mem_filterMap.mp hw
  have hm : w ∈ big := by first | exact List.mem_of_getElem? hi | exact List.getElem?_mem hi
  exact ⟨hm, good_of_word h1⟩
theorem goodIn_app {big a b : List Cond} (ha : GoodIn big a) (hb : GoodIn big b) : GoodIn big (a ++ b) := fun w h => (List.mem_append.mp h).elim (ha w) (hb w)
theorem goodIn_ca {big a b : List Cond} {c : Cond} (ha : GoodIn big (c :: a)) (hb : GoodIn big b) : GoodIn big (c :: (a ++ b)) := fun w h => (List.mem_cons.mp h).elim (fun e => ha w (List.mem_cons.mpr (Or.inl e))) (fun h => (List.mem_append.mp h).elim (fun h => ha w (List.mem_cons.mpr (Or.inr h))) (hb w))
theorem goodIn_sub {big ws : List Cond} (hm : ∀ w ∈ ws, w ∈ big) (h : ws.all goodWord = true) : GoodIn big ws := fun w hw => ⟨hm w hw, good_of_word (List.all_eq_true.mp h w hw)⟩
/-! ===== END ===== -/

/-! ===== BEGIN new T[n][m]: the outer array a place, the inner ones among the pooled ===== -/
/-- f, but v at every address of l -/
def vr_up {α : Type} (f : Nat → α) (l : List Nat) (v : α) : Nat → α := fun a => if a ∈ l then v else f a
theorem vr_up_in {α : Type} {f : Nat → α} {l : List Nat} {v : α} {a : Nat} (h : a ∈ l) : vr_up f l v a = v := if_pos h
theorem vr_up_ne {α : Type} {f : Nat → α} {l : List Nat} {v : α} {a : Nat} (h : a ∉ l) : vr_up f l v a = f a := if_neg h
theorem vr_rows {L l : List Nat} {f : Nat → va_E} {e : va_E} (h : ∀ a, a ∈ l → a ∉ L) : va_pl L f ++ l.map (fun a => (a, e)) = va_pl (L ++ l) (vr_up f l e) := by
  unfold va_pl
  rw [List.map_append]
  congr 1
  · apply List.map_congr_left
    intro a ha
    rw [vr_up_ne (fun q => h a q ha)]
  · apply List.map_congr_left
    intro a ha
    rw [vr_up_in ha]
theorem vr_lay {X rows : va_W} {x : Nat × va_E} {pl : va_W} {D : va_G} {cl : List vw_C} {H : Heap} (hP : va_P D cl (((X ++ pl) ++ [x]) ++ rows) H) : va_P D cl ((X ++ [x]) ++ (pl ++ rows)) H := by
  rw [List.append_assoc (X ++ pl)] at hP
  have h := va_P.swap hP
  rw [← List.append_assoc X] at h
  have h2 := va_P.swap h
  rw [List.append_assoc (X ++ [x])] at h2
  exact h2
theorem vr_layD {X rows : va_W} {x : Nat × va_E} {pl : va_W} {A : Nat → Prop} (hD : va_D A (((X ++ pl) ++ [x]) ++ rows)) : va_D A ((X ++ [x]) ++ (pl ++ rows)) := by
  rw [List.append_assoc (X ++ pl)] at hD
  have h := va_D.swap hD
  rw [← List.append_assoc X] at h
  have h2 := va_D.swap h
  rw [List.append_assoc (X ++ [x])] at h2
  exact h2
theorem vr_outer (c : ClassId) (N h0 : Nat) : ∀ i : Nat, Jvm.Free.Multi.outerC c N h0 i = arrV c N (fun j => va_rf (if j < i then some (h0 + 1 + j) else none))
  | 0 => by
    show ({ cls := c, slots := Array.replicate N .null, vm := .none } : Cell) = _
    rw [arrV_new]
    refine congrArg (arrV c N) (funext fun j => ?_)
    simp [va_rf]
  | i + 1 => by
    show (Jvm.Free.Multi.outerC c N h0 i).setSlot i (.ref (h0 + 1 + i)) = _
    rw [vr_outer c N h0 i, arrV_store]
    refine congrArg (arrV c N) (funext fun j => ?_)
    by_cases e : j = i
    · subst e
      simp [updV, va_rf]
    · by_cases h : j < i
      · simp [updV, e, h, Nat.lt_succ_of_lt h]
      · simp [updV, e, h, show ¬ j < i + 1 by omega]
section VGM
variable {p : Program} {l : Launch} {e : Env} {R : Room} {s : State} {m : MethodId} {args : Array Value} {below : List Frame} {meth : Method} {c : Code} {H : Heap} {locs : List Loc} {cells slots : Nat} {Q : State → Prop}
variable {cc : ByteArray} {pc : Nat} {ls : Array Slot} {rest : List Value} {D : va_G} {cl : List vw_C} {A : Nat → Prop} {a : Nat} {tys : List (ClassId × FieldType)} {ws : va_W} {H0 : Heap}
theorem va_mna {X : va_W} {L : List Nat} {f : Nat → va_E} {cc : ByteArray} (hexec : p.tables.exec = Jvm.exec) (hb : c.code = cc) {own : String} {index : Nat} {ty : FieldType} {cy : ClassId} (hown : s.vm.findClass own = some m.cls) (hclink : (Cond.classLink own index ("[" ++ (FieldType.array ty).toString)).before args s = true) (hover : va_AOA ty s) (harr : (Cond.arrayClass ty).before args s = true) (hcy : s.vm.findClass (FieldType.array ty).toString = some cy)
    (hK : va_K D cl tys s) (hP : va_P D cl (X ++ va_pl L f) H) (hD : va_D A (X ++ va_pl L f)) (hS : va_S A H0 H locs) (hA : ∀ q, H0.size ≤ q → A q) {n k : Int32} {N' K' : Nat} {z : vp_A} (hn : ¬ n < 0) (hk : ¬ k < 0) (hN : n.toNatClampNeg = N') (hM : k.toNatClampNeg = K')
    (hb1 : N' * 4 ≤ 536870912) (hb2 : K' * componentBytes ty ≤ 536870912) (hb3 : K' ≤ 536870912) (hdf : fits ty (defaultValue ty) = true) (hdd : (defaultValue ty).isDefault = true) (hcells : cells + (1 + N') ≤ R.cells) (hslots : slots + (N' + N' * K') ≤ R.slots) (hz : ∀ c : ClassId, Jvm.Free.Multi.innerC c K' (defaultValue ty) = vp_cell c z) (hdg : decode cc pc = .ok (.multianewarray index 2, 4))
    (kk : ∀ (q : Nat) (r : Nat → Nat) (cA : ClassId) (H1 : Heap), (∀ i j : Nat, i < N' → j < N' → r i = r j → i = j) → (∀ i : Nat, i < N' → r i ∉ L) → va_K D cl (tys ++ [(cA, .array ty)]) s →
      va_P D cl ((X ++ [(q, .inl (cA, N', .inr (.inr (.inr (.inr (fun i => if i < N' then some (r i) else none))))))]) ++ va_pl (L ++ (List.range N').map r) (vr_up f ((List.range N').map r) (.inl (cy, z)))) H1 → va_D A ((X ++ [(q, .inl (cA, N', .inr (.inr (.inr (.inr (fun i => if i < N' then some (r i) else none))))))]) ++ va_pl (L ++ (List.range N').map r) (vr_up f ((List.range N').map r) (.inl (cy, z)))) → va_S A H0 H1 locs →
      W p l e R s m args below meth c H1 locs (cells + 1 + N') (slots + N' + N' * K') Q (F0 m (pc + 4) ls (.ref q :: rest))) : W p l e R s m args below meth c H locs cells slots Q (F0 m pc ls (.int k :: .int n :: rest)) := by
  subst hN
  subst hM
  intro T hT Xs
  obtain ⟨vm₁, cA, comp, -, fA, fC, hO, -, X', step⟩ := Xs.multianewarray2F hexec hown hclink (va_AOA.use hover) harr (g := F0 m pc ls (.int k :: .int n :: rest)) rfl (by rw [hb]; exact hdg) rfl hn hk hb1 hb2 hb3 hdf hdd hcells hslots
  have ec : some cy = some comp := hcy.symm.trans fC
  cases ec
  generalize hF : Jvm.Free.Multi.fill (T.setVm vm₁) cA cy n.toNatClampNeg k.toNatClampNeg (defaultValue ty) n.toNatClampNeg = F at X' step
  have hTh : (T.setVm vm₁).heap = H := hT
  obtain ⟨f1, f2, -, -⟩ := Jvm.Free.Multi.fill_facts (T.setVm vm₁) cA cy n.toNatClampNeg k.toNatClampNeg (defaultValue ty) n.toNatClampNeg
  rw [hF, hTh] at f1 f2
  have hold : ∀ x : Nat, x < H.size → F.heap[x]? = H[x]? := fun x hx => by
    have := Jvm.Free.Multi.fill_old (T.setVm vm₁) cA cy n.toNatClampNeg k.toNatClampNeg (defaultValue ty) (a := x) (by rw [hTh]; exact hx) n.toNatClampNeg
    rw [hF, hTh] at this
    exact this
  have hrow : ∀ j : Nat, j < n.toNatClampNeg → F.heap[H.size + 1 + j]? = some (vp_cell cy z) := fun j hj => by
    have := Jvm.Free.Multi.fill_inner (T.setVm vm₁) cA cy n.toNatClampNeg k.toNatClampNeg (defaultValue ty) n.toNatClampNeg j hj
    rw [hF, hTh, hz] at this
    exact this
  have hout : Jvm.Free.Multi.outerC cA n.toNatClampNeg H.size n.toNatClampNeg = vp_cell cA (n.toNatClampNeg, .inr (.inr (.inr (.inr (fun i => if i < n.toNatClampNeg then some (H.size + 1 + i) else none))))) := by
    rw [vp_cell_q]
    exact vr_outer cA n.toNatClampNeg H.size n.toNatClampNeg
  rw [hout] at f2
  have hlt : ∀ a, a ∈ L → a < H.size := fun a ha => by
    obtain ⟨k9, hk9⟩ := va_pl_get (X := X) (f := f) ha
    exact (hP k9 _ hk9).lt
  have hnl : ∀ i : Nat, i < n.toNatClampNeg → H.size + 1 + i ∉ L := fun i _ h => by
    have := hlt _ h
    omega
  have hnm : ∀ a, a ∈ (List.range n.toNatClampNeg).map (fun i => H.size + 1 + i) → a ∉ L := fun a ha h => by
    obtain ⟨i, -, rfl⟩ := List.mem_map.mp ha
    have := hlt _ h
    omega
  have hP0 : va_P D cl (X ++ va_pl L f) F.heap := hP.kept (fun k9 x hx => hold x.1 ((hP k9 x hx).lt))
  have hP1 : va_P D cl ((X ++ va_pl L f) ++ [(H.size, .inl (cA, n.toNatClampNeg, .inr (.inr (.inr (.inr (fun i => if i < n.toNatClampNeg then some (H.size + 1 + i) else none))))))]) F.heap := hP0.app (fun k9 x hx => by
    have h0 : k9 < 1 := (List.getElem?_eq_some_iff.mp hx).1
    rw [show k9 = 0 by omega] at hx
    cases hx
    exact f2)
  have hP2 : va_P D cl (((X ++ va_pl L f) ++ [(H.size, .inl (cA, n.toNatClampNeg, .inr (.inr (.inr (.inr (fun i => if i < n.toNatClampNeg then some (H.size + 1 + i) else none))))))]) ++ ((List.range n.toNatClampNeg).map (fun i => H.size + 1 + i)).map (fun a => (a, .inl (cy, z)))) F.heap := hP1.app (fun k9 x hx => by
    obtain ⟨a, ha, rfl⟩ := List.mem_map.mp (List.mem_of_getElem? hx)
    obtain ⟨i, hi, rfl⟩ := List.mem_map.mp ha
    exact hrow i (List.mem_range.mp hi))
  have hD2 : va_D A (((X ++ va_pl L f) ++ [(H.size, .inl (cA, n.toNatClampNeg, .inr (.inr (.inr (.inr (fun i => if i < n.toNatClampNeg then some (H.size + 1 + i) else none))))))]) ++ ((List.range n.toNatClampNeg).map (fun i => H.size + 1 + i)).map (fun a => (a, .inl (cy, z)))) := by
    have hD1 := hD.push (e := .inl (cA, n.toNatClampNeg, .inr (.inr (.inr (.inr (fun i => if i < n.toNatClampNeg then some (H.size + 1 + i) else none)))))) hP rfl (hA _ hS.1)
    generalize hW1 : (X ++ va_pl L f) ++ [(H.size, .inl (cA, n.toNatClampNeg, .inr (.inr (.inr (.inr (fun i => if i < n.toNatClampNeg then some (H.size + 1 + i) else none))))))] = W1 at hD1 hP1 ⊢
    have hle : ∀ (k9 : Nat) (x : Nat × va_E), W1[k9]? = some x → x.1 ≤ H.size := fun k9 x hx => by
      rw [← hW1] at hx
      by_cases hl : k9 < (X ++ va_pl L f).length
      · rw [List.getElem?_append_left hl] at hx
        exact Nat.le_of_lt ((hP k9 x hx).lt)
      · rw [List.getElem?_append_right (by omega)] at hx
        have h0 : k9 - (X ++ va_pl L f).length < 1 := (List.getElem?_eq_some_iff.mp hx).1
        rw [show k9 - (X ++ va_pl L f).length = 0 by omega] at hx
        cases hx
        exact Nat.le_refl _
    have hr : ∀ (k9 : Nat) (x : Nat × va_E), (((List.range n.toNatClampNeg).map (fun i => H.size + 1 + i)).map (fun a => ((a, .inl (cy, z)) : Nat × va_E)))[k9]? = some x → x.1 = H.size + 1 + k9 := fun k9 x hx => by
      rw [List.getElem?_map, List.getElem?_map] at hx
      by_cases h9 : k9 < n.toNatClampNeg
      · rw [List.getElem?_range h9] at hx
        cases hx
        rfl
      · have hn0 : (List.range n.toNatClampNeg)[k9]? = none := List.getElem?_eq_none (by rw [List.length_range]; omega)
        rw [hn0] at hx
        cases hx
    refine ⟨fun i j x y hi hj hxy => ?_, fun k9 x hx => ?_⟩
    · by_cases h1 : i < W1.length <;> by_cases h2 : j < W1.length
      · rw [List.getElem?_append_left h1] at hi
        rw [List.getElem?_append_left h2] at hj
        exact hD1.1 i j x y hi hj hxy
      · rw [List.getElem?_append_left h1] at hi
        rw [List.getElem?_append_right (by omega)] at hj
        have := hle _ _ hi
        have := hr _ _ hj
        omega
      · rw [List.getElem?_append_right (by omega)] at hi
        rw [List.getElem?_append_left h2] at hj
        have := hle _ _ hj
        have := hr _ _ hi
        omega
      · rw [List.getElem?_append_right (by omega)] at hi hj
        have := hr _ _ hi
        have := hr _ _ hj
        omega
    · by_cases h1 : k9 < W1.length
      · rw [List.getElem?_append_left h1] at hx
        exact hD1.2 k9 x hx
      · rw [List.getElem?_append_right (by omega)] at hx
        have := hr _ _ hx
        exact hA _ (by have := hS.1; omega)
  have hAr : ArrOfT s cA (.array ty) := fun N9 z9 => by
    obtain ⟨-, k9, hk9, cm9, hkk9⟩ := (hO 0 0 0).1
    exact ⟨(fun q hq => by cases hq), k9, hk9, cm9, hkk9⟩
  have hK2 : va_K D cl (tys ++ [(cA, .array ty)]) s := ⟨hK.1, fun k9 x hx => by
    by_cases hl : k9 < tys.length
    · rw [List.getElem?_append_left hl] at hx
      exact hK.2 k9 x hx
    · rw [List.getElem?_append_right (by omega)] at hx
      have h0 : k9 - tys.length < 1 := (List.getElem?_eq_some_iff.mp hx).1
      rw [show k9 - tys.length = 0 by omega] at hx
      cases hx
      exact ⟨hAr, fA⟩⟩
  obtain ⟨t, a1, b1⟩ := kk H.size (fun i => H.size + 1 + i) cA F.heap (fun i j _ _ h => by have h9 : H.size + 1 + i = H.size + 1 + j := h; omega) hnl hK2 (by rw [← vr_rows hnm]; exact vr_lay hP2) (by rw [← vr_rows hnm]; exact vr_layD hD2) ⟨by rw [f1]; have := hS.1; omega, fun x h1 h2 => (hold x (Nat.lt_of_lt_of_le h1 hS.1)).trans (hS.2.1 x h1 h2), hS.2.2⟩ F rfl X'
  refine ⟨t, step t ?_, b1⟩
  have e : T.heap.size = H.size := by rw [hT]
  rw [e]
  exact a1
end VGM
/-! ===== END ===== -/

/-! ===== BEGIN exceptions that leave a method, and their catching by the caller (launches without stack traces) ===== -/
section VXA
/-! The laws vx_back, vx_callV, vx_callS, vx_callSW, vx_throw0, vx_throwS follow proofs of the library, with one case more: JvmDerived/Free/Laws.lean (Back.of_free), Shelf42/LK1.lean (callV, callS), Shelf/KitTraced.lean (throwNew0V, throwNewS). -/
/-- where a method has thrown q: the class by its name, the cell, what was written, the world -/
def vx_T (XC : String → State → State → Prop) (st : State) (q : Addr) (t : State) (mc ms : Nat) (free : Addr → Prop) : Prop :=
  ∃ (E : String) (ce : Cell) (L : List Loc), XC E st t ∧ t.heap[q]? = some ce ∧ ce.vm = .none ∧ st.vm.findClass E = some ce.cls ∧ st.WarmedH t.vm ∧ st.sameButNew ({ t with vm := st.vm } : State) L mc ms ∧ ∀ z ∈ L, free z.base
def vx_Q (Qc : Array Value → State → Outcome → State → Prop) (XC : String → State → State → Prop) (mc ms : Nat) (free : Addr → Prop) : Array Value → State → Outcome → State → Prop := fun a st o t =>
  (Qc a st o t ∧ ∃ L, FrameEnd st o t L mc ms ∧ ∀ q ∈ L, free q.base) ∨ ∃ q, o = .threw q ∧ vx_T XC st q t mc ms free
/-- a callee that returns or throws -/
def vx_Met (l : Launch) (y : MethodName) (ws : List Cond) (rm : Room) (Pc : Array Value → State → Prop) (Qc : Array Value → State → Outcome → State → Prop) (XC : String → State → State → Prop) (mc ms : Nat) (free : Addr → Prop) : Prop :=
  MetFree l y (headSpec ws rm) Pc (fun _ _ _ _ _ => True) (vx_Q Qc XC mc ms free)
def vx_Post (XC : String → State → State → Prop) (mc ms : Nat) (free : Addr → Prop) : Pt → Array Value → Addr → Pt → Prop := fun A a q B =>
  ∃ (g : JFrame) (mk : MethodId) (t : State) (L : List Loc) (E : String) (ce : Cell), B.U.heap = t.heap ∧ B.U.vm = t.vm ∧ XC E (A.U.calling g mk a) t ∧ t.heap[q]? = some ce ∧ ce.vm = .none ∧ A.U.vm.findClass E = some ce.cls ∧ B.locs = A.locs ++ L ∧ (∀ z ∈ L, free z.base) ∧ B.cells = A.cells + mc ∧ B.slots = A.slots + ms
def vx_Back (l : Launch) (R : Room) (p : Program) (e : Env) (below : List Frame) (s : State) (sargs : Array Value) (y : MethodName) (len W9 : Nat)
    (Pre : Pt → Array Value → Prop) (Post : Pt → Array Value → Option Value → Pt → Prop) (PostX : Pt → Array Value → Addr → Pt → Prop) : Prop :=
  ∀ (m : MethodId) (meth : Method) (c : Code) (A : Pt) (g : JFrame) (ig : Instr) (mk : MethodId) (a : Array Value),
    Stand p l e R s m sargs below meth c A.U A.locs A.cells A.slots → g.method = m → g.locals.size = c.maxLocals → decode c.code g.pc = .ok (ig, len) →
    2 * g.monitorRoom + (g.stack.map fun v => v.category).sum ≤ W9 → A.U.methodNamed? y = some mk → Pre A a →
    (∃ (v : Option Value) (B : Pt), Stand p l e R s m sargs below meth c B.U B.locs B.cells B.slots ∧ Post A a v B ∧
      Steps p.tables e below (doInvoke e (A.U.setTop g) [] mk a).1 (B.U.setTop { g with pc := g.pc + len, stack := v.toList ++ g.stack })) ∨
    (∃ (q : Addr) (B : Pt), Stand p l e R s m sargs below meth c B.U B.locs B.cells B.slots ∧ PostX A a q B ∧
      Steps p.tables e below (doInvoke e (A.U.setTop g) [] mk a).1 ((B.U.setTop g).pushFrame (.throwing q)))
section Payer
variable {l : Launch} {R : Room} {p : Program} {e : Env} {below : List Frame} {s : State} {sargs : Array Value} {y : MethodName} {len W9 : Nat}
theorem vx_back {ws : List Cond} {rm : Room} {Pc : Array Value → State → Prop} {Qc : Array Value → State → Outcome → State → Prop} {XC : String → State → State → Prop} {mc ms : Nat} {free : Addr → Prop} {bytes : ByteArray} {maxL : Nat} {ret : Option FieldType}
    (hM : vx_Met l y ws rm Pc Qc XC mc ms free) (hblind : FrameBlind Pc) (hrc : rm.cells = mc) (hrs : rm.slots = ms)
    (hframes : rm.frames + 1 ≤ R.frames) (hlocals : W9 + (maxL + 11) + rm.locals ≤ R.locals)
    (hws : ∀ w ∈ ws, ∀ a' U, s.WarmedH U.vm → w.before a' U = true) (hcode : Cond.code y bytes maxL ret ∈ ws) (hinit : ∀ a' U, s.WarmedH U.vm → (Cond.initialized y.cls).before a' U = true) :
    vx_Back l R p e below s sargs y len W9 (PreOf R mc ms Pc) (PostOf Qc mc ms free) (vx_Post XC mc ms free) := by
  intro m meth c A g ig mk a X hg hsize hdg hW hn hp
  have h1 : (headSpec ws rm).pre.before a A.U = true := atoms_intro fun w hw => hws w hw _ _ X.warmed
  have h2 : (Cond.code y bytes maxL ret).before a A.U = true := hws _ hcode _ _ X.warmed
  have h3 : (Cond.initialized y.cls).before a A.U = true := hinit _ _ X.warmed
  have h4 : A.cells + (headSpec ws rm).room.cells ≤ R.cells := by rw [show (headSpec ws rm).room.cells = mc from hrc]; exact hp.1
  have h5 : A.slots + (headSpec ws rm).room.slots ≤ R.slots := by rw [show (headSpec ws rm).room.slots = ms from hrs]; exact hp.2.1
  have hPc : Pc a (A.U.calling g mk a) := hblind _ _ _ _ hp.2.2
  obtain ⟨U, Ls, c0, s0⟩ := A
  dsimp only [Pt.U, Pt.locs, Pt.cells, Pt.slots] at h1 h2 h3 h4 h5 X hn hPc ⊢
  obtain ⟨methY, cY, hmY, hcY, -, hlY, -, -, -, -⟩ := Cond.code_spec hn h2
  obtain ⟨kY, hkY, -⟩ := className_of_methodNamed hn
  have hinitY : kY.init = .initialized := Cond.initialized_spec (findClass_of_methodNamed hn) hkY h3
  have h : At U g.method c below := by rw [hg]; exact X.here
  have hlocals9 : W9 + (maxL + 11) + (headSpec ws rm).room.locals ≤ R.locals := hlocals
  have happ : (headSpec ws rm).appliesLoose y e.platform (U.calling g mk a) = true :=
    Spec.appliesLoose_calling (g := g) h hdg hn hkY hinitY
      (X.room_calling (g := g) (R' := (headSpec ws rm).room) hsize hmY hcY hframes (by rw [hlY]; omega) h4 h5) h1
  obtain ⟨mid, hmid⟩ := h.above
  have hfr : (U.setTop g).frames = (.java g :: mid) ++ below := by rw [State.frames_setTop' g h.top, hmid]; rfl
  obtain ⟨o, s₂, hsteps, -, hend, hq⟩ := Steps.callFree hM p X.admits X.cas X.clock (acts := []) hfr happ hPc trivial
  have hq' : vx_Q Qc XC mc ms free a (U.calling g mk a) o s₂ := hq
  rw [State.frames_setTop' g h.top] at hend
  obtain ⟨g₀, hg0⟩ := Option.isSome_iff_exists.mp h.top
  obtain ⟨r, hr⟩ := State.topJava?_eq_some.mp hg0
  have hr' : (({ U with heap := s₂.heap, slotsUsed := s₂.slotsUsed } : State).setVm s₂.vm).frames = .java g₀ :: r := hr
  rcases hq' with ⟨hqc, L, hfe, hL⟩ | ⟨q, rfl, E, ce, L, hx, hce, hcv, hcl, hW₂, hsm, hL⟩
  · obtain ⟨⟨v, rfl⟩, hW₂, e2, q2, q3, q4, q5, q6⟩ := id hfe
    have e3 : s₂ = ({ (U.calling g mk a).setFrames s₂.frames with heap := s₂.heap, slotsUsed := s₂.slotsUsed } : State).setVm s₂.vm := by
      have : s₂ = ({ s₂ with vm := (U.calling g mk a).vm } : State).setVm s₂.vm := rfl
      rw [e2] at this
      exact this
    obtain ⟨c₂, i₂, len₂, hc₂, hd₂, hf₂⟩ := hend
    have hW' : U.WarmedH s₂.vm := hW₂
    have hcc : c₂ = c := by
      have h1 : s₂.code? g.method = U.code? g.method := by
        rw [State.code?_eq, State.code?_eq, hW'.alike.method?]
      exact Option.some.inj (hc₂.symm.trans (h1.trans h.code))
    subst hcc
    have hlen : len₂ = len := by rw [hdg] at hd₂; cases hd₂; rfl
    subst hlen
    have hs₂ : s₂ = (({ U with heap := s₂.heap, slotsUsed := s₂.slotsUsed } : State).setVm s₂.vm).setTop { g with pc := g.pc + len₂, stack := v.toList ++ g.stack } := by
      refine e3.trans ?_
      rw [hf₂, State.calling_eq h.top, State.setFrames_setFrames, State.setTop_of_frames _ hr', hr]
      rfl
    have hsame : U.sameButNew ({ U with heap := s₂.heap, slotsUsed := s₂.slotsUsed } : State) L mc ms := by
      refine ⟨?_, q2, q3, q4, q5, q6⟩
      obtain ⟨t, ht, -⟩ := State.frames_cons hr
      show ({ U with heap := s₂.heap, slotsUsed := s₂.slotsUsed } : State) = { U.setFrames U.frames with heap := s₂.heap, slotsUsed := s₂.slotsUsed }
      rw [State.setFrames_self ht]
    subst hg
    refine Or.inl ⟨v, ⟨(({ U with heap := s₂.heap, slotsUsed := s₂.slotsUsed } : State).setVm s₂.vm), Ls ++ L, c0 + mc, s0 + ms⟩,
      ⟨X.admits, X.cas, X.clock, X.frames, X.room, X.hears, X.method, X.code, (X.here.setHeapUsed s₂.heap s₂.slotsUsed).setVm hW'.alike, X.tail, State.WarmedH.trans X.warmed hW', X.limits, X.bytes, X.same.trans (hsame.setVm s.vm)⟩,
      ⟨g, mk, s₂, L, rfl, rfl, hqc, rfl, hL, rfl, rfl⟩, ?_⟩
    show Steps p.tables e below _ ((({ U with heap := s₂.heap, slotsUsed := s₂.slotsUsed } : State).setVm s₂.vm).setTop { g with pc := g.pc + len₂, stack := v.toList ++ g.stack })
    rw [← hs₂]
    exact hsteps
  · obtain ⟨e2, q2, q3, q4, q5, q6⟩ := id hsm
    have e3 : s₂ = ({ (U.calling g mk a).setFrames s₂.frames with heap := s₂.heap, slotsUsed := s₂.slotsUsed } : State).setVm s₂.vm := by
      have : s₂ = ({ s₂ with vm := (U.calling g mk a).vm } : State).setVm s₂.vm := rfl
      rw [e2] at this
      exact this
    have hf₂ : s₂.frames = .throwing q :: .java g :: U.frames.tail := hend
    have hW' : U.WarmedH s₂.vm := hW₂
    have hs₂ : s₂ = ((({ U with heap := s₂.heap, slotsUsed := s₂.slotsUsed } : State).setVm s₂.vm).setTop g).pushFrame (.throwing q) := by
      refine e3.trans ?_
      rw [hf₂, State.calling_eq h.top, State.setFrames_setFrames, State.pushFrame, State.frames_setTop _ hr', State.setTop_of_frames _ hr', State.setFrames_setFrames, hr]
      rfl
    have hsame : U.sameButNew ({ U with heap := s₂.heap, slotsUsed := s₂.slotsUsed } : State) L mc ms := by
      refine ⟨?_, q2, q3, q4, q5, q6⟩
      obtain ⟨t, ht, -⟩ := State.frames_cons hr
      show ({ U with heap := s₂.heap, slotsUsed := s₂.slotsUsed } : State) = { U.setFrames U.frames with heap := s₂.heap, slotsUsed := s₂.slotsUsed }
      rw [State.setFrames_self ht]
    subst hg
    refine Or.inr ⟨q, ⟨(({ U with heap := s₂.heap, slotsUsed := s₂.slotsUsed } : State).setVm s₂.vm), Ls ++ L, c0 + mc, s0 + ms⟩,
      ⟨X.admits, X.cas, X.clock, X.frames, X.room, X.hears, X.method, X.code, (X.here.setHeapUsed s₂.heap s₂.slotsUsed).setVm hW'.alike, X.tail, State.WarmedH.trans X.warmed hW', X.limits, X.bytes, X.same.trans (hsame.setVm s.vm)⟩,
      ⟨g, mk, s₂, L, E, ce, rfl, rfl, hx, hce, hcv, hcl, rfl, hL, rfl, rfl⟩, ?_⟩
    show Steps p.tables e below _ (((({ U with heap := s₂.heap, slotsUsed := s₂.slotsUsed } : State).setVm s₂.vm).setTop g).pushFrame (.throwing q))
    rw [← hs₂]
    exact hsteps
end Payer
section Calls
variable {p : Program} {l : Launch} {e : Env} {R : Room} {s : State} {m : MethodId} {args : Array Value} {below : List Frame} {meth : Method} {c : Code} {T : State} {locs : List Loc} {cells slots : Nat}
theorem vx_callV (X : Stand p l e R s m args below meth c T locs cells slots) (hexec : p.tables.exec = Jvm.exec) {own C : String} {index : Nat} {y : MethodName} {bytes : ByteArray} {maxL : Nat} {ret : Option FieldType}
    (hown : s.vm.findClass own = some m.cls) (hlink : (Cond.methodLink own index y).before args s = true) (hinst : (Cond.instanceMethod y).before args s = true) (hsel : (Cond.selects C y y).before args s = true)
    (hcode : (Cond.code y bytes maxL ret).before args s = true) (hy : y.cls ≠ "java/lang/invoke/MethodHandle" ∧ y.cls ≠ "java/lang/invoke/VarHandle")
    {W9 : Nat} {Pre : Pt → Array Value → Prop} {Post : Pt → Array Value → Option Value → Pt → Prop} {PostX : Pt → Array Value → Addr → Pt → Prop} (hK : vx_Back l R p e below s args y 3 W9 Pre Post PostX)
    {b : Addr} {cellB : Cell} (hcell : T.heap[b]? = some cellB) (hobj : cellB.vm.isStatics = false) (hcls : s.vm.findClass C = some cellB.cls)
    {g : JFrame} (hg : g.method = m) (hsize : g.locals.size = c.maxLocals) {argsL rest : List Value} (hlen : ∀ sig, parseMethodDescriptor y.desc = some sig → argsL.length = sig.parameters.length)
    (hstack : g.stack = argsL.reverse ++ .ref b :: rest) (hW : 2 * g.monitorRoom + (rest.map fun v => v.category).sum ≤ W9) (hdg : decode c.code g.pc = .ok (.invokevirtual index, 3))
    (hpre : ∀ vm₁, s.WarmedH vm₁ → Pre ⟨T.setVm vm₁, locs, cells, slots⟩ (Value.ref b :: argsL).toArray) :
    (∃ (v : Option Value) (vm₁ : Vm) (B : Pt), s.WarmedH vm₁ ∧ Stand p l e R s m args below meth c B.U B.locs B.cells B.slots ∧ Post ⟨T.setVm vm₁, locs, cells, slots⟩ (Value.ref b :: argsL).toArray v B ∧
      ∀ target, Steps p.tables e below (B.U.setTop { g with pc := g.pc + 3, stack := v.toList ++ rest }) target → Steps p.tables e below (T.setTop g) target) ∨
    (∃ (q : Addr) (vm₁ : Vm) (B : Pt), s.WarmedH vm₁ ∧ Stand p l e R s m args below meth c B.U B.locs B.cells B.slots ∧ PostX ⟨T.setVm vm₁, locs, cells, slots⟩ (Value.ref b :: argsL).toArray q B ∧
      Steps p.tables e below (T.setTop g) ((B.U.setTop { g with stack := rest }).pushFrame (.throwing q))) := by
  obtain ⟨mk, methM, hnamed, hmethM, hstM, habM⟩ := Cond.instanceMethod_spec hinst
  obtain ⟨methM', cM, hmethM', -, -, -, -, -, -, hsigM⟩ := Cond.code_spec hnamed hcode
  cases hmethM.symm.trans hmethM'
  obtain ⟨c2, r2, m2, q1, q2, q3, q4, kP, hkP, hkPi⟩ := Cond.selects_spec hsel
  cases hcls.symm.trans q1
  cases (State.methodFound?_of_named hnamed hy).symm.trans q2
  cases hnamed.symm.trans q3
  have hselP : selectMethod e.platform s.vm cellB.cls mk = .method mk := by rw [Launch.admits_selectMethod X.admits]; exact q4
  obtain ⟨vm₁, X₁, hstep₁⟩ := X.invokevirtual hexec hown hlink hnamed hmethM hstM hkP hkPi hy (a := b) (cell := cellB) hcell
    (fun z h => by rw [h] at hobj; cases hobj) hselP hmethM habM hkP hkPi (g := g) hg (argsL := argsL) (rest := rest) (hlen _ hsigM) hstack hdg
  rcases hK m meth c ⟨T.setVm vm₁, locs, cells, slots⟩ { g with stack := rest } (.invokevirtual index) mk (Value.ref b :: argsL).toArray X₁ hg hsize hdg hW (X₁.named hnamed) (hpre vm₁ X₁.warmed) with ⟨v, B, X', hpost, hsteps⟩ | ⟨q, B, X', hpost, hsteps⟩
  · exact Or.inl ⟨v, vm₁, B, X₁.warmed, X', hpost, fun target h => hstep₁ _ fun acts => by rw [doInvoke_state]; exact hsteps.trans h⟩
  · exact Or.inr ⟨q, vm₁, B, X₁.warmed, X', hpost, hstep₁ _ fun acts => by rw [doInvoke_state]; exact hsteps⟩
theorem vx_callS (X : Stand p l e R s m args below meth c T locs cells slots) (hexec : p.tables.exec = Jvm.exec) {own : String} {index : Nat} {y : MethodName} {bytes : ByteArray} {maxL : Nat} {ret : Option FieldType}
    (hown : s.vm.findClass own = some m.cls) (hlink : (Cond.methodLink own index y).before args s = true) (hstat : (Cond.static y).before args s = true) (hinit : (Cond.initialized y.cls).before args s = true)
    (hcode : (Cond.code y bytes maxL ret).before args s = true) (hy : y.cls ≠ "java/lang/invoke/MethodHandle" ∧ y.cls ≠ "java/lang/invoke/VarHandle")
    {W9 : Nat} {Pre : Pt → Array Value → Prop} {Post : Pt → Array Value → Option Value → Pt → Prop} {PostX : Pt → Array Value → Addr → Pt → Prop} (hK : vx_Back l R p e below s args y 3 W9 Pre Post PostX)
    {g : JFrame} (hg : g.method = m) (hsize : g.locals.size = c.maxLocals) {argsL rest : List Value} (hlen : ∀ sig, parseMethodDescriptor y.desc = some sig → argsL.length = sig.parameters.length)
    (hstack : g.stack = argsL.reverse ++ rest) (hW : 2 * g.monitorRoom + (rest.map fun v => v.category).sum ≤ W9) (hdg : decode c.code g.pc = .ok (.invokestatic index, 3))
    (hpre : ∀ vm₁, s.WarmedH vm₁ → Pre ⟨T.setVm vm₁, locs, cells, slots⟩ argsL.toArray) :
    (∃ (v : Option Value) (vm₁ : Vm) (B : Pt), s.WarmedH vm₁ ∧ Stand p l e R s m args below meth c B.U B.locs B.cells B.slots ∧ Post ⟨T.setVm vm₁, locs, cells, slots⟩ argsL.toArray v B ∧
      ∀ target, Steps p.tables e below (B.U.setTop { g with pc := g.pc + 3, stack := v.toList ++ rest }) target → Steps p.tables e below (T.setTop g) target) ∨
    (∃ (q : Addr) (vm₁ : Vm) (B : Pt), s.WarmedH vm₁ ∧ Stand p l e R s m args below meth c B.U B.locs B.cells B.slots ∧ PostX ⟨T.setVm vm₁, locs, cells, slots⟩ argsL.toArray q B ∧
      Steps p.tables e below (T.setTop g) ((B.U.setTop { g with stack := rest }).pushFrame (.throwing q))) := by
  obtain ⟨mk, hnamed⟩ := Cond.code_named hcode
  obtain ⟨methM, cM, hmethM, -, -, -, -, -, -, hsigM⟩ := Cond.code_spec hnamed hcode
  have hstatic : methM.isStatic = true := Cond.static_spec hnamed hmethM hstat
  obtain ⟨kP, hkP, -⟩ := className_of_methodNamed hnamed
  have hinitP : kP.init = .initialized := Cond.initialized_spec (findClass_of_methodNamed hnamed) hkP hinit
  obtain ⟨vm₁, X₁, hstep₁⟩ := X.invokestatic hexec hown hlink hnamed hmethM hstatic hkP hinitP hy (g := g) hg (argsL := argsL) (rest := rest) (hlen _ hsigM) hstack hdg
  rcases hK m meth c ⟨T.setVm vm₁, locs, cells, slots⟩ { g with stack := rest } (.invokestatic index) mk argsL.toArray X₁ hg hsize hdg hW (X₁.named hnamed) (hpre vm₁ X₁.warmed) with ⟨v, B, X', hpost, hsteps⟩ | ⟨q, B, X', hpost, hsteps⟩
  · exact Or.inl ⟨v, vm₁, B, X₁.warmed, X', hpost, fun target h => hstep₁ _ fun acts => by rw [doInvoke_state]; exact hsteps.trans h⟩
  · exact Or.inr ⟨q, vm₁, B, X₁.warmed, X', hpost, hstep₁ _ fun acts => by rw [doInvoke_state]; exact hsteps⟩
end Calls
theorem vx_cls {s : State} {T : State} {vm₁ : Vm} {E : String} {k : ClassId} (hW : s.WarmedH vm₁) (h : (T.setVm vm₁).vm.findClass E = some k) : s.vm.findClass E = some k := by
  have h1 : vm₁.findClass E = some k := h
  rw [hW.alike.findClass] at h1
  exact h1
/-- the method's frame g, with q thrown over it -/
def vx_W (p : Program) (l : Launch) (e : Env) (R : Room) (s : State) (m : MethodId) (args : Array Value) (below : List Frame) (meth : Method) (c : Code) (H : Heap) (locs : List Loc) (cells slots : Nat) (Q : State → Prop) (g : JFrame) (q : Addr) : Prop :=
  ∀ T : State, T.heap = H → Stand p l e R s m args below meth c T locs cells slots → ∃ t, Steps p.tables e below ((T.setTop g).pushFrame (.throwing q)) t ∧ Q t
def vx_Run (p : Program) (l : Launch) (e : Env) (R : Room) (s : State) (m : MethodId) (args : Array Value) (below : List Frame) (meth : Method) (c : Code) (H : Heap) (locs : List Loc) (cells slots mc ms : Nat) (g : JFrame) (rest : List Value) (Qa : State → Outcome → State → Prop) (XC : String → State → State → Prop) (free : Addr → Prop) : Prop :=
  ∀ T : State, T.heap = H → Stand p l e R s m args below meth c T locs cells slots →
    (∃ (v : Option Value) (st₀ t T' : State) (L : List Loc), st₀.heap = H ∧ Stand p l e R s m args below meth c T' (locs ++ L) (cells + mc) (slots + ms) ∧ (∀ q ∈ L, free q.base) ∧ T'.heap = t.heap ∧ T'.vm = t.vm ∧ Qa st₀ (.returned v) t ∧
      Goes p e below T g T' { g with pc := g.pc + 3, stack := v.toList ++ rest }) ∨
    (∃ (q : Addr) (st₀ t T' : State) (L : List Loc) (E : String) (ce : Cell), st₀.heap = H ∧ Stand p l e R s m args below meth c T' (locs ++ L) (cells + mc) (slots + ms) ∧ (∀ z ∈ L, free z.base) ∧ T'.heap = t.heap ∧ T'.vm = t.vm ∧ XC E st₀ t ∧ t.heap[q]? = some ce ∧ ce.vm = .none ∧ s.vm.findClass E = some ce.cls ∧
      Steps p.tables e below (T.setTop g) ((T'.setTop { g with stack := rest }).pushFrame (.throwing q)))
def vx_X {S : Type} (px : S → Prop) (B : String → S → State → Prop) (A : Nat → Prop) : String → State → State → Prop := fun E st t => ∃ u : S, px u ∧ B E u t ∧ va_F A st t
section Runs
variable {p : Program} {l : Launch} {e : Env} {R : Room} {s : State} {m : MethodId} {args : Array Value} {below : List Frame} {meth : Method} {c : Code} {H : Heap} {locs : List Loc} {cells slots : Nat}
variable {y : MethodName} {bytes cc : ByteArray} {maxL nL mc ms n index : Nat} {ret : Option FieldType} {ws : List Cond} {rm : Room} {Pc : Array Value → State → Prop} {Qc : Array Value → State → Outcome → State → Prop} {XC : String → State → State → Prop} {free : Addr → Prop} {Ts : List Cond} {own C : String} {b : Addr} {As rest : List Value} {g : JFrame}
theorem vx_callBack (cb : CallB R s args own index y bytes maxL ret ws rm mc ms n) (hM : vx_Met l y ws rm Pc Qc XC mc ms free) (hbl : FrameBlind Pc) : vx_Back l R p e below s args y 3 8 (PreOf R mc ms Pc) (PostOf Qc mc ms free) (vx_Post XC mc ms free) := by
  obtain ⟨hrc, hrs, hfr, hlo, hws, hcw, -, hini, -⟩ := cb
  exact vx_back (bytes := bytes) (maxL := maxL) (ret := ret) hM hbl hrc hrs hfr hlo hws hcw (fun a' U hW => word_at hW (Or.inl (by first | rfl | simp [Cond.onTables, Cond.keeps, Cond.steady])) hini)
theorem vx_runV (S : CallFix p m c cc nL s args Ts own) (hM : vx_Met l y ws rm Pc Qc XC mc ms free) (cw : CallW R s args own C index y bytes maxL ret ws rm mc ms n) (hp : PreV s H C b Pc As)
    (hg : g.method = m) (hn : As.length = n) (hsize : g.locals.size = nL) (hstack : g.stack = As.reverse ++ .ref b :: rest) (hW : 2 * g.monitorRoom + (rest.map fun v => v.category).sum ≤ 8) (hdg : decode cc g.pc = .ok (.invokevirtual index, 3)) (hf : cells + mc ≤ R.cells ∧ slots + ms ≤ R.slots) :
    vx_Run p l e R s m args below meth c H locs cells slots mc ms g rest (Qc (Value.ref b :: As).toArray) XC free := by
  have hK : vx_Back l R p e below s args y 3 8 (PreOf R mc ms Pc) (PostOf Qc mc ms free) (vx_Post XC mc ms free) := vx_callBack cw.1 hM hp.1
  obtain ⟨⟨-, -, -, -, -, -, hcode, -, hy, hlen, hl⟩, hin, hse⟩ := cw
  obtain ⟨hx, hb, hml, ho, -⟩ := S
  obtain ⟨-, ⟨cellB, hcB, hoB, hclB⟩, hPc⟩ := hp
  intro T hT X
  rcases vx_callV X hx (C := C) (bytes := bytes) (maxL := maxL) (ret := ret) ho hl hin hse hcode hy hK (by rw [hT]; exact hcB) hoB hclB hg (hsize.trans hml.symm) (argsL := As) (rest := rest) (fun sig h => hn.trans (hlen sig h)) hstack hW (by rw [hb]; exact hdg)
    (fun vm₁ hW₁ => ⟨hf.1, hf.2, hPc (T.setVm vm₁) hT hW₁⟩) with ⟨v, vm₁, ⟨U', l2, c2, s2⟩, hW₁, X', ⟨g', mk, t, L, e1, e2, hq, h1, hL, h2, h3⟩, st⟩ | ⟨q, vm₁, ⟨U', l2, c2, s2⟩, hW₁, X', ⟨g', mk, t, L, E, ce, e1, e2, hq, hce, hcv, hcl, h1, hL, h2, h3⟩, st⟩
  · dsimp only [Pt.U, Pt.locs, Pt.cells, Pt.slots] at X' e1 e2 h1 h2 h3 st
    subst h1; subst h2; subst h3
    exact Or.inl ⟨v, (T.setVm vm₁).calling g' mk (Value.ref b :: As).toArray, t, U', L, hT, X', hL, e1, e2, hq, st⟩
  · dsimp only [Pt.U, Pt.locs, Pt.cells, Pt.slots] at X' e1 e2 h1 h2 h3 st hcl
    subst h1; subst h2; subst h3
    exact Or.inr ⟨q, (T.setVm vm₁).calling g' mk (Value.ref b :: As).toArray, t, U', L, E, ce, hT, X', hL, e1, e2, hq, hce, hcv, vx_cls hW₁ hcl, st⟩
theorem vx_runS (S : CallFix p m c cc nL s args Ts own) (hM : vx_Met l y ws rm Pc Qc XC mc ms free) (cw : CallB R s args own index y bytes maxL ret ws rm mc ms n ∧ (Cond.static y).before args s = true) (hp : PreS s H Pc As)
    (hg : g.method = m) (hn : As.length = n) (hsize : g.locals.size = nL) (hstack : g.stack = As.reverse ++ rest) (hW : 2 * g.monitorRoom + (rest.map fun v => v.category).sum ≤ 8) (hdg : decode cc g.pc = .ok (.invokestatic index, 3)) (hf : cells + mc ≤ R.cells ∧ slots + ms ≤ R.slots) :
    vx_Run p l e R s m args below meth c H locs cells slots mc ms g rest (Qc As.toArray) XC free := by
  have hK : vx_Back l R p e below s args y 3 8 (PreOf R mc ms Pc) (PostOf Qc mc ms free) (vx_Post XC mc ms free) := vx_callBack cw.1 hM hp.1
  obtain ⟨⟨-, -, -, -, -, -, hcode, hini, hy, hlen, hl⟩, hstt⟩ := cw
  obtain ⟨hx, hb, hml, ho, -⟩ := S
  intro T hT X
  rcases vx_callS X hx (bytes := bytes) (maxL := maxL) (ret := ret) ho hl hstt hini hcode hy hK hg (hsize.trans hml.symm) (argsL := As) (rest := rest) (fun sig h => hn.trans (hlen sig h)) hstack hW (by rw [hb]; exact hdg)
    (fun vm₁ hW₁ => ⟨hf.1, hf.2, hp.2 (T.setVm vm₁) hT hW₁⟩) with ⟨v, vm₁, ⟨U', l2, c2, s2⟩, hW₁, X', ⟨g', mk, t, L, e1, e2, hq, h1, hL, h2, h3⟩, st⟩ | ⟨q, vm₁, ⟨U', l2, c2, s2⟩, hW₁, X', ⟨g', mk, t, L, E, ce, e1, e2, hq, hce, hcv, hcl, h1, hL, h2, h3⟩, st⟩
  · dsimp only [Pt.U, Pt.locs, Pt.cells, Pt.slots] at X' e1 e2 h1 h2 h3 st
    subst h1; subst h2; subst h3
    exact Or.inl ⟨v, (T.setVm vm₁).calling g' mk As.toArray, t, U', L, hT, X', hL, e1, e2, hq, st⟩
  · dsimp only [Pt.U, Pt.locs, Pt.cells, Pt.slots] at X' e1 e2 h1 h2 h3 st hcl
    subst h1; subst h2; subst h3
    exact Or.inr ⟨q, (T.setVm vm₁).calling g' mk As.toArray, t, U', L, E, ce, hT, X', hL, e1, e2, hq, hce, hcv, vx_cls hW₁ hcl, st⟩
end Runs
section Rows
variable {p : Program} {l : Launch} {e : Env} {R : Room} {s : State} {m : MethodId} {args : Array Value} {below : List Frame} {meth : Method} {c : Code} {H : Heap} {locs : List Loc} {cells slots : Nat} {Q : State → Prop}
variable {mc ms : Nat} {free : Addr → Prop} {A0 A1 : Nat → Prop} {H0 : Heap} {a : Array Value} {pc : Nat} {ls : Array Slot} {st0 rest : List Value}
theorem vx_keep {st₀ t T' : State} {L : List Loc} (h0 : st₀.heap = H) (e1 : T'.heap = t.heap) (hS : va_S A0 H0 H locs) (hA : ∀ q, q < H.size → A1 q → A0 q) (hf : ∀ q, free q → A0 q) (hL : ∀ q ∈ L, free q.base) (hF : va_F A1 st₀ t) :
    H.size ≤ T'.heap.size ∧ (∀ q : Nat, q < H.size → ¬ A1 q → T'.heap[q]? = H[q]?) ∧ va_S A0 H0 T'.heap (locs ++ L) := by
  obtain ⟨hz, hk⟩ := hF
  rw [h0] at hz hk
  exact ⟨by rw [e1]; exact hz, fun q h1 h2 => by rw [e1]; exact hk q h1 h2,
    ⟨Nat.le_trans hS.1 (by rw [e1]; exact hz), fun q h1 h2 => by rw [e1, hk q (Nat.lt_of_lt_of_le h1 hS.1) (fun z => h2 (hA q (Nat.lt_of_lt_of_le h1 hS.1) z))]; exact hS.2.1 q h1 h2, fun q hq => by
      rcases List.mem_append.mp hq with h | h
      · exact hS.2.2 q h
      · exact hf _ (hL q h)⟩⟩
theorem vx_calli {S SX : Type} {post : Int32 → S → Prop} {px : SX → Prop} {B : S → State → Prop} {BX : String → SX → State → Prop} {AX : Nat → Prop} (hr : vx_Run p l e R s m args below meth c H locs cells slots mc ms (F0 m pc ls st0) rest (va_Qi post B A1 a) (vx_X px BX AX) free) (hS : va_S A0 H0 H locs) (hA : ∀ q, q < H.size → A1 q → A0 q) (hf : ∀ q, free q → A0 q) (hAX : ∀ q, q < H.size → AX q → A0 q)
    (kx : ∀ (E : String) (ce : Cell) (q9 : Addr) (u : SX) (t : State) (H1 : Heap) (locs1 : List Loc), t.heap = H1 → s.vm.Alike t.vm → px u → BX E u t → H.size ≤ H1.size → (∀ q : Nat, q < H.size → ¬ AX q → H1[q]? = H[q]?) → va_S A0 H0 H1 locs1 → H1[q9]? = some ce → ce.vm = .none → s.vm.findClass E = some ce.cls → vx_W p l e R s m args below meth c H1 locs1 (cells + mc) (slots + ms) Q (F0 m pc ls rest) q9)
    (kk : ∀ (r : Int32) (u : S) (t : State) (H1 : Heap) (locs1 : List Loc), t.heap = H1 → s.vm.Alike t.vm → post r u → B u t → H.size ≤ H1.size → (∀ q : Nat, q < H.size → ¬ A1 q → H1[q]? = H[q]?) → va_S A0 H0 H1 locs1 → W p l e R s m args below meth c H1 locs1 (cells + mc) (slots + ms) Q (F0 m (pc + 3) ls (.int r :: rest))) : W p l e R s m args below meth c H locs cells slots Q (F0 m pc ls st0) := by
  intro T hT X
  rcases hr T hT X with ⟨v, st₀, t, T', L, h0, X', hL, e1, e2, ⟨⟨r, u, hv, hp, hb⟩, hF⟩, st⟩ | ⟨q, st₀, t, T', L, E, ce, h0, X', hL, e1, e2, ⟨u, hp, hb, hF⟩, hce, hcv, hcl, st⟩
  · cases hv
    obtain ⟨k1, k2, k3⟩ := vx_keep h0 e1 hS hA hf hL hF
    obtain ⟨t2, a1, b1⟩ := kk r u t T'.heap (locs ++ L) e1.symm (by rw [← e2]; exact X'.warmed.alike) hp hb k1 k2 k3 T' rfl X'
    exact ⟨t2, st t2 a1, b1⟩
  · obtain ⟨k1, k2, k3⟩ := vx_keep h0 e1 hS hAX hf hL hF
    obtain ⟨t2, a1, b1⟩ := kx E ce q u t T'.heap (locs ++ L) e1.symm (by rw [← e2]; exact X'.warmed.alike) hp hb k1 k2 k3 (by rw [e1]; exact hce) hcv hcl T' rfl X'
    exact ⟨t2, st.trans a1, b1⟩
theorem vx_calll {S SX : Type} {post : Int64 → S → Prop} {px : SX → Prop} {B : S → State → Prop} {BX : String → SX → State → Prop} {AX : Nat → Prop} (hr : vx_Run p l e R s m args below meth c H locs cells slots mc ms (F0 m pc ls st0) rest (va_Ql post B A1 a) (vx_X px BX AX) free) (hS : va_S A0 H0 H locs) (hA : ∀ q, q < H.size → A1 q → A0 q) (hf : ∀ q, free q → A0 q) (hAX : ∀ q, q < H.size → AX q → A0 q)
    (kx : ∀ (E : String) (ce : Cell) (q9 : Addr) (u : SX) (t : State) (H1 : Heap) (locs1 : List Loc), t.heap = H1 → s.vm.Alike t.vm → px u → BX E u t → H.size ≤ H1.size → (∀ q : Nat, q < H.size → ¬ AX q → H1[q]? = H[q]?) → va_S A0 H0 H1 locs1 → H1[q9]? = some ce → ce.vm = .none → s.vm.findClass E = some ce.cls → vx_W p l e R s m args below meth c H1 locs1 (cells + mc) (slots + ms) Q (F0 m pc ls rest) q9)
    (kk : ∀ (r : Int64) (u : S) (t : State) (H1 : Heap) (locs1 : List Loc), t.heap = H1 → s.vm.Alike t.vm → post r u → B u t → H.size ≤ H1.size → (∀ q : Nat, q < H.size → ¬ A1 q → H1[q]? = H[q]?) → va_S A0 H0 H1 locs1 → W p l e R s m args below meth c H1 locs1 (cells + mc) (slots + ms) Q (F0 m (pc + 3) ls (.long r :: rest))) : W p l e R s m args below meth c H locs cells slots Q (F0 m pc ls st0) := by
  intro T hT X
  rcases hr T hT X with ⟨v, st₀, t, T', L, h0, X', hL, e1, e2, ⟨⟨r, u, hv, hp, hb⟩, hF⟩, st⟩ | ⟨q, st₀, t, T', L, E, ce, h0, X', hL, e1, e2, ⟨u, hp, hb, hF⟩, hce, hcv, hcl, st⟩
  · cases hv
    obtain ⟨k1, k2, k3⟩ := vx_keep h0 e1 hS hA hf hL hF
    obtain ⟨t2, a1, b1⟩ := kk r u t T'.heap (locs ++ L) e1.symm (by rw [← e2]; exact X'.warmed.alike) hp hb k1 k2 k3 T' rfl X'
    exact ⟨t2, st t2 a1, b1⟩
  · obtain ⟨k1, k2, k3⟩ := vx_keep h0 e1 hS hAX hf hL hF
    obtain ⟨t2, a1, b1⟩ := kx E ce q u t T'.heap (locs ++ L) e1.symm (by rw [← e2]; exact X'.warmed.alike) hp hb k1 k2 k3 (by rw [e1]; exact hce) hcv hcl T' rfl X'
    exact ⟨t2, st.trans a1, b1⟩
theorem vx_callf {S SX : Type} {post : UInt32 → S → Prop} {px : SX → Prop} {B : S → State → Prop} {BX : String → SX → State → Prop} {AX : Nat → Prop} (hr : vx_Run p l e R s m args below meth c H locs cells slots mc ms (F0 m pc ls st0) rest (va_Qf post B A1 a) (vx_X px BX AX) free) (hS : va_S A0 H0 H locs) (hA : ∀ q, q < H.size → A1 q → A0 q) (hf : ∀ q, free q → A0 q) (hAX : ∀ q, q < H.size → AX q → A0 q)
    (kx : ∀ (E : String) (ce : Cell) (q9 : Addr) (u : SX) (t : State) (H1 : Heap) (locs1 : List Loc), t.heap = H1 → s.vm.Alike t.vm → px u → BX E u t → H.size ≤ H1.size → (∀ q : Nat, q < H.size → ¬ AX q → H1[q]? = H[q]?) → va_S A0 H0 H1 locs1 → H1[q9]? = some ce → ce.vm = .none → s.vm.findClass E = some ce.cls → vx_W p l e R s m args below meth c H1 locs1 (cells + mc) (slots + ms) Q (F0 m pc ls rest) q9)
    (kk : ∀ (r : UInt32) (u : S) (t : State) (H1 : Heap) (locs1 : List Loc), t.heap = H1 → s.vm.Alike t.vm → post r u → B u t → H.size ≤ H1.size → (∀ q : Nat, q < H.size → ¬ A1 q → H1[q]? = H[q]?) → va_S A0 H0 H1 locs1 → W p l e R s m args below meth c H1 locs1 (cells + mc) (slots + ms) Q (F0 m (pc + 3) ls (.float r :: rest))) : W p l e R s m args below meth c H locs cells slots Q (F0 m pc ls st0) := by
  intro T hT X
  rcases hr T hT X with ⟨v, st₀, t, T', L, h0, X', hL, e1, e2, ⟨⟨r, u, hv, hp, hb⟩, hF⟩, st⟩ | ⟨q, st₀, t, T', L, E, ce, h0, X', hL, e1, e2, ⟨u, hp, hb, hF⟩, hce, hcv, hcl, st⟩
  · cases hv
    obtain ⟨k1, k2, k3⟩ := vx_keep h0 e1 hS hA hf hL hF
    obtain ⟨t2, a1, b1⟩ := kk r u t T'.heap (locs ++ L) e1.symm (by rw [← e2]; exact X'.warmed.alike) hp hb k1 k2 k3 T' rfl X'
    exact ⟨t2, st t2 a1, b1⟩
  · obtain ⟨k1, k2, k3⟩ := vx_keep h0 e1 hS hAX hf hL hF
    obtain ⟨t2, a1, b1⟩ := kx E ce q u t T'.heap (locs ++ L) e1.symm (by rw [← e2]; exact X'.warmed.alike) hp hb k1 k2 k3 (by rw [e1]; exact hce) hcv hcl T' rfl X'
    exact ⟨t2, st.trans a1, b1⟩
theorem vx_calld {S SX : Type} {post : UInt64 → S → Prop} {px : SX → Prop} {B : S → State → Prop} {BX : String → SX → State → Prop} {AX : Nat → Prop} (hr : vx_Run p l e R s m args below meth c H locs cells slots mc ms (F0 m pc ls st0) rest (va_Qd post B A1 a) (vx_X px BX AX) free) (hS : va_S A0 H0 H locs) (hA : ∀ q, q < H.size → A1 q → A0 q) (hf : ∀ q, free q → A0 q) (hAX : ∀ q, q < H.size → AX q → A0 q)
    (kx : ∀ (E : String) (ce : Cell) (q9 : Addr) (u : SX) (t : State) (H1 : Heap) (locs1 : List Loc), t.heap = H1 → s.vm.Alike t.vm → px u → BX E u t → H.size ≤ H1.size → (∀ q : Nat, q < H.size → ¬ AX q → H1[q]? = H[q]?) → va_S A0 H0 H1 locs1 → H1[q9]? = some ce → ce.vm = .none → s.vm.findClass E = some ce.cls → vx_W p l e R s m args below meth c H1 locs1 (cells + mc) (slots + ms) Q (F0 m pc ls rest) q9)
    (kk : ∀ (r : UInt64) (u : S) (t : State) (H1 : Heap) (locs1 : List Loc), t.heap = H1 → s.vm.Alike t.vm → post r u → B u t → H.size ≤ H1.size → (∀ q : Nat, q < H.size → ¬ A1 q → H1[q]? = H[q]?) → va_S A0 H0 H1 locs1 → W p l e R s m args below meth c H1 locs1 (cells + mc) (slots + ms) Q (F0 m (pc + 3) ls (.double r :: rest))) : W p l e R s m args below meth c H locs cells slots Q (F0 m pc ls st0) := by
  intro T hT X
  rcases hr T hT X with ⟨v, st₀, t, T', L, h0, X', hL, e1, e2, ⟨⟨r, u, hv, hp, hb⟩, hF⟩, st⟩ | ⟨q, st₀, t, T', L, E, ce, h0, X', hL, e1, e2, ⟨u, hp, hb, hF⟩, hce, hcv, hcl, st⟩
  · cases hv
    obtain ⟨k1, k2, k3⟩ := vx_keep h0 e1 hS hA hf hL hF
    obtain ⟨t2, a1, b1⟩ := kk r u t T'.heap (locs ++ L) e1.symm (by rw [← e2]; exact X'.warmed.alike) hp hb k1 k2 k3 T' rfl X'
    exact ⟨t2, st t2 a1, b1⟩
  · obtain ⟨k1, k2, k3⟩ := vx_keep h0 e1 hS hAX hf hL hF
    obtain ⟨t2, a1, b1⟩ := kx E ce q u t T'.heap (locs ++ L) e1.symm (by rw [← e2]; exact X'.warmed.alike) hp hb k1 k2 k3 (by rw [e1]; exact hce) hcv hcl T' rfl X'
    exact ⟨t2, st.trans a1, b1⟩
theorem vx_callv {S SX : Type} {post : S → Prop} {px : SX → Prop} {B : S → State → Prop} {BX : String → SX → State → Prop} {AX : Nat → Prop} (hr : vx_Run p l e R s m args below meth c H locs cells slots mc ms (F0 m pc ls st0) rest (va_Qv post B A1 a) (vx_X px BX AX) free) (hS : va_S A0 H0 H locs) (hA : ∀ q, q < H.size → A1 q → A0 q) (hf : ∀ q, free q → A0 q) (hAX : ∀ q, q < H.size → AX q → A0 q)
    (kx : ∀ (E : String) (ce : Cell) (q9 : Addr) (u : SX) (t : State) (H1 : Heap) (locs1 : List Loc), t.heap = H1 → s.vm.Alike t.vm → px u → BX E u t → H.size ≤ H1.size → (∀ q : Nat, q < H.size → ¬ AX q → H1[q]? = H[q]?) → va_S A0 H0 H1 locs1 → H1[q9]? = some ce → ce.vm = .none → s.vm.findClass E = some ce.cls → vx_W p l e R s m args below meth c H1 locs1 (cells + mc) (slots + ms) Q (F0 m pc ls rest) q9)
    (kk : ∀ (u : S) (t : State) (H1 : Heap) (locs1 : List Loc), t.heap = H1 → s.vm.Alike t.vm → post u → B u t → H.size ≤ H1.size → (∀ q : Nat, q < H.size → ¬ A1 q → H1[q]? = H[q]?) → va_S A0 H0 H1 locs1 → W p l e R s m args below meth c H1 locs1 (cells + mc) (slots + ms) Q (F0 m (pc + 3) ls (rest))) : W p l e R s m args below meth c H locs cells slots Q (F0 m pc ls st0) := by
  intro T hT X
  rcases hr T hT X with ⟨v, st₀, t, T', L, h0, X', hL, e1, e2, ⟨⟨u, hv, hp, hb⟩, hF⟩, st⟩ | ⟨q, st₀, t, T', L, E, ce, h0, X', hL, e1, e2, ⟨u, hp, hb, hF⟩, hce, hcv, hcl, st⟩
  · cases hv
    obtain ⟨k1, k2, k3⟩ := vx_keep h0 e1 hS hA hf hL hF
    obtain ⟨t2, a1, b1⟩ := kk u t T'.heap (locs ++ L) e1.symm (by rw [← e2]; exact X'.warmed.alike) hp hb k1 k2 k3 T' rfl X'
    exact ⟨t2, st t2 a1, b1⟩
  · obtain ⟨k1, k2, k3⟩ := vx_keep h0 e1 hS hAX hf hL hF
    obtain ⟨t2, a1, b1⟩ := kx E ce q u t T'.heap (locs ++ L) e1.symm (by rw [← e2]; exact X'.warmed.alike) hp hb k1 k2 k3 (by rw [e1]; exact hce) hcv hcl T' rfl X'
    exact ⟨t2, st.trans a1, b1⟩
/-- caught by the row x of this method's table; the rows ahead don't take it -/
theorem vx_catch {own name : String} {E : String} {ce : Cell} {q : Addr} (hown : s.vm.findClass own = some m.cls) (pre : List ExceptionTableEntry) (x : ExceptionTableEntry) (suf : List ExceptionTableEntry) (hsplit : c.exceptionTable.toList = pre ++ x :: suf)
    (hpass : ∀ z ∈ pre, covers z pc = false ∨ (z.catchType ≠ 0 ∧ ∃ nm : String, (Cond.classLink own z.catchType nm).before args s = true ∧ va_Nc E nm s)) (hx : covers x pc = true) (h0 : x.catchType ≠ 0)
    (hlink : (Cond.classLink own x.catchType name).before args s = true) (hcast : (Cond.castable E name).before args s = true) (hcell : H[q]? = some ce) (hv : ce.vm = .none) (hcl : s.vm.findClass E = some ce.cls)
    (kk : W p l e R s m args below meth c H locs cells slots Q (F0 m x.handlerPc ls [.ref q])) : vx_W p l e R s m args below meth c H locs cells slots Q (F0 m pc ls rest) q := by
  intro T hT X
  have hpl : e.platform.magicAccessors = ({} : Platform).magicAccessors := by rw [X.admits.platform]
  obtain ⟨c3, c4, hc3, hc4, hasg⟩ := Cond.castable_spec hcast
  cases Option.some.inj (hc3.symm.trans hcl)
  obtain ⟨c5, hc5, hcl5⟩ := Cond.classLink_spec hown hlink e.platform hpl
  cases Option.some.inj (hc4.symm.trans hc5)
  obtain ⟨vm', X', st⟩ := X.thenCaughtThrough q (g := F0 m pc ls rest) rfl (Steps.refl _) (by rw [hT]; exact hcell) (by rw [hv]; rfl) (by obtain ⟨k9, h9, -⟩ := Vm.findClass_spec hcl; exact ⟨k9, h9⟩) pre x suf hsplit
    (fun z hz => by
      rcases hpass z hz with h | ⟨hz0, nm, hl1, hn1⟩
      · exact Or.inl h
      · obtain ⟨c6, hc6, hcl6⟩ := Cond.classLink_spec hown hl1 e.platform hpl
        obtain ⟨a8, b8, h1, h2, h3⟩ := hn1
        cases Option.some.inj (h1.symm.trans hcl)
        cases Option.some.inj (h2.symm.trans hc6)
        exact Or.inr ⟨hz0, _, hcl6, h3⟩) hx (Or.inr ⟨h0, c4, hcl5, hasg⟩)
  obtain ⟨t, a1, b1⟩ := kk (T.setVm vm') hT X'
  exact ⟨t, st.trans a1, b1⟩
end Rows
section Ends
variable {p : Program} {l : Launch} {e : Env} {R : Room} {s : State} {m : MethodId} {args : Array Value} {below : List Frame} {meth : Method} {c : Code} {H : Heap} {locs : List Loc} {cells slots : Nat} {Q : State → Prop}
variable {mc ms : Nat} {free : Addr → Prop} {A0 A1 : Nat → Prop} {H0 : Heap} {a : Array Value} {ls : Array Slot} {st0 rest : List Value}
variable {Qc : Array Value → State → Outcome → State → Prop} {XC : String → State → State → Prop}
/-- what a body that may throw owes at its end -/
def vx_MQ (below : List Frame) (Qc : Array Value → State → Outcome → State → Prop) (XC : String → State → State → Prop) (a : Array Value) (s : State) (mc ms : Nat) (free : Addr → Prop) : State → Prop := fun t =>
  ∃ o, t.status = .running ∧ Ended t below o ∧ vx_Q Qc XC mc ms free a s o t
theorem vx_ret {g : JFrame} {mc ms : Nat} (k : W p l e R s m args below meth c H locs cells slots (MQ below Qc args s mc ms free) g) : W p l e R s m args below meth c H locs cells slots (vx_MQ below Qc XC args s mc ms free) g := by
  intro T hT X
  obtain ⟨t, a1, o, b1, b2, b3, b4⟩ := k T hT X
  exact ⟨t, a1, o, b1, b2, Or.inl ⟨b3, b4⟩⟩
/-- not caught here: it goes on to the caller -/
theorem vx_widen {g : JFrame} {q : Addr} {k n : Nat} (h1 : cells ≤ k) (h2 : slots ≤ n) (kk : vx_W p l e R s m args below meth c H locs k n Q g q) : vx_W p l e R s m args below meth c H locs cells slots Q g q := fun T hT X => kk T hT (stand_widen X h1 h2)
theorem vx_out {pc : Nat} {E : String} {ce : Cell} {q : Addr} {mc ms : Nat} (hout : ∀ x ∈ c.exceptionTable.toList, covers x pc = false) (hlocks : meth.locks = false) (hcell : H[q]? = some ce) (hv : ce.vm = .none) (hcl : s.vm.findClass E = some ce.cls)
    (hx : ∀ t : State, t.heap = H → s.vm.Alike t.vm → XC E s t) (hf : ∀ z ∈ locs, free z.base) (hc : cells ≤ mc) (hs : slots ≤ ms) :
    vx_W p l e R s m args below meth c H locs cells slots (vx_MQ below Qc XC args s mc ms free) (F0 m pc ls rest) q := by
  intro T hT X
  obtain ⟨st1, hrun, hend, hW, hsm⟩ := X.leaveThrown q (g := F0 m pc ls rest) rfl rfl rfl hout hlocks
  have hcell9 : (T.setFrames (.throwing q :: below)).heap[q]? = some ce := by
    show T.heap[q]? = some ce
    rw [hT]; exact hcell
  exact ⟨_, st1, .threw q, hrun, hend, Or.inr ⟨q, rfl, E, ce, locs, hx _ hT hW.alike, hcell9, hv, hcl, hW, hsm.mono hc hs, hf⟩⟩
theorem vx_frame {U : State} {k n : Nat} (h : s.sameButNew ({ U with vm := s.vm } : State) locs k n) : s.heap.size ≤ U.heap.size ∧ ∀ q : Nat, q < s.heap.size → (∀ z ∈ locs, z.base ≠ q) → U.heap[q]? = s.heap[q]? := by
  obtain ⟨-, h2, -, -, -, h6⟩ := h
  refine ⟨h2, fun q hq hz => ?_⟩
  obtain ⟨c9, e1, e2, e3, e4⟩ := h6 q _ (Array.getElem?_eq_getElem hq)
  have hs : c9.slots = (s.heap[q]).slots := Array.ext_getElem? fun i => e4 i fun hm => hz _ hm rfl
  have h9 : c9 = s.heap[q] := by
    rw [hs] at e2
    exact e2
  have e5 : U.heap[q]? = some c9 := e1
  rw [e5, h9, Array.getElem?_eq_getElem hq]
/-- the words of a throw but the four that speak of the heap -/
def vx_no (w : Cond) : Bool := decide (w ≠ .isRef (.static Bundle.tN "UNASSIGNED_STACK" Bundle.steD)) && decide (w ≠ .isRef (.static Bundle.tN "SUPPRESSED_SENTINEL" Bundle.listD)) && decide (w ≠ .laysStatic Bundle.tN "UNASSIGNED_STACK" Bundle.steD) && decide (w ≠ .laysStatic Bundle.tN "SUPPRESSED_SENTINEL" Bundle.listD)
def vx_at0 (own : String) (ic : Nat) (X : String) (names : List String) : List Cond := (Bundle.ownAtoms0 own ic X names).filter vx_no
def vx_atS (own : String) (ic : Nat) (X : String) (names : List String) : List Cond := (Bundle.ownAtoms own ic X names).filter vx_no
/-- a word that the tables alone decide, or a good one -/
def vx_ot (w : Cond) : Bool := w.onTables || goodWord w
theorem vx_ot_at {args a' : Array Value} {s U : State} {w : Cond} (hW : s.WarmedH U.vm) (hvm : s.vm = U.vm) (hg : vx_ot w = true) (h : w.before args s = true) : w.before a' U = true := by
  simp only [vx_ot, Bool.or_eq_true] at hg
  rcases hg with hg | hg
  · exact va_tabs hg hvm h
  · exact word_at hW (good_of_word hg) h
/-- a list's words: the good ones out of the method's own list, the others by premises of their own -/
theorem vx_hat {args : Array Value} {s : State} {L B : List Cond} (h1 : ∀ w ∈ L.filter goodWord, w.before args s = true) (h2 : ∀ w ∈ L.filter (fun w => !goodWord w), w ∈ B) (h3 : ∀ w ∈ B, w.before args s = true) : ∀ w ∈ L, w.before args s = true := by
  intro w hw
  by_cases g : goodWord w = true
  · exact h1 w (List.mem_filter.mpr ⟨hw, g⟩)
  · refine h3 w (h2 w (List.mem_filter.mpr ⟨hw, ?_⟩))
    show (!goodWord w) = true
    cases hgw : goodWord w
    · rfl
    · exact absurd hgw g
theorem vx_c {args : Array Value} {s : State} {w : Cond} {B : List Cond} (h : w.before args s = true) (t : ∀ w ∈ B, w.before args s = true) : ∀ w' ∈ w :: B, w'.before args s = true := fun w' h' => (List.mem_cons.mp h').elim (fun e => by rw [e]; exact h) (t w')
theorem vx_n {args : Array Value} {s : State} : ∀ w ∈ ([] : List Cond), w.before args s = true := fun _ h => nomatch h
theorem vx_own {args : Array Value} {s : State} {L : List Cond} (h1 : ∀ w ∈ L.filter vx_no, w.before args s = true)
    (hU : (Cond.isRef (.static Bundle.tN "UNASSIGNED_STACK" Bundle.steD)).before args s = true) (hN : (Cond.isRef (.static Bundle.tN "SUPPRESSED_SENTINEL" Bundle.listD)).before args s = true)
    (lU : (Cond.laysStatic Bundle.tN "UNASSIGNED_STACK" Bundle.steD).before args s = true) (lN : (Cond.laysStatic Bundle.tN "SUPPRESSED_SENTINEL" Bundle.listD).before args s = true) : ∀ w ∈ L, w.before args s = true := by
  intro w hw
  by_cases e1 : w = .isRef (.static Bundle.tN "UNASSIGNED_STACK" Bundle.steD)
  · rw [e1]; exact hU
  · by_cases e2 : w = .isRef (.static Bundle.tN "SUPPRESSED_SENTINEL" Bundle.listD)
    · rw [e2]; exact hN
    · by_cases e3 : w = .laysStatic Bundle.tN "UNASSIGNED_STACK" Bundle.steD
      · rw [e3]; exact lU
      · by_cases e4 : w = .laysStatic Bundle.tN "SUPPRESSED_SENTINEL" Bundle.listD
        · rw [e4]; exact lN
        · exact h1 w (List.mem_filter.mpr ⟨hw, by unfold vx_no; rw [decide_eq_true e1, decide_eq_true e2, decide_eq_true e3, decide_eq_true e4]; rfl⟩)
/-- where a static field lies, its class's statics cell in H -/
def vx_L (C n d : String) (A : Nat → Prop) (U : State) (H : Heap) : Prop := ∃ (c : ClassId) (k : Class) (i : Nat) (f : Field) (a : Nat) (cell : Cell), U.vm.findClass C = some c ∧ U.fieldFound? C n d = some (c, k, i, f) ∧ f.isStatic = true ∧ k.statics = some a ∧ H[a]? = some cell ∧ cell.vm.isStatics = true ∧ cell.cls = c ∧ f.slot < cell.slots.size ∧ k.staticTypes[f.slot]? = some f.type ∧ ¬ A a
theorem vx_L.moved {C n d : String} {A : Nat → Prop} {u U : State} {H : Heap} (hvm : u.vm.Alike U.vm) (h : vx_L C n d A u H) : vx_L C n d A U H := by
  obtain ⟨c, k, i, f, a, cell, h1, h2, h3, h4, h5, h6, h7, h8, h9, h10⟩ := h
  obtain ⟨k', hi', he⟩ := State.fieldFound?_setVm hvm h2
  exact ⟨c, k', i, f, a, cell, by rw [hvm.findClass]; exact h1, hi', h3, by rw [he]; exact h4, h5, h6, h7, h8, by rw [he]; exact h9, h10⟩
theorem vx_L.kept {C n d : String} {A : Nat → Prop} {U : State} {H H1 : Heap} (h : vx_L C n d A U H) (hq : ∀ a : Nat, a < H.size → ¬ A a → H1[a]? = H[a]?) : vx_L C n d A U H1 := by
  obtain ⟨c, k, i, f, a, cell, h1, h2, h3, h4, h5, h6, h7, h8, h9, h10⟩ := h
  exact ⟨c, k, i, f, a, cell, h1, h2, h3, h4, by rw [hq a (Array.getElem?_eq_some_iff.mp h5).1 h10]; exact h5, h6, h7, h8, h9, h10⟩
theorem vx_L.narrow {C n d : String} {A B : Nat → Prop} {U : State} {H : Heap} (h : vx_L C n d A U H) (hAB : ∀ q, B q → A q) : vx_L C n d B U H := by
  obtain ⟨c, k, i, f, a, cell, h1, h2, h3, h4, h5, h6, h7, h8, h9, h10⟩ := h
  exact ⟨c, k, i, f, a, cell, h1, h2, h3, h4, h5, h6, h7, h8, h9, fun z => h10 (hAB _ z)⟩
theorem vx_L.word {C n d : String} {A : Nat → Prop} {s : State} {args : Array Value} (h : vx_L C n d A s s.heap) : (Cond.laysStatic C n d).before args s = true := by
  obtain ⟨c, k, i, f, a, cell, h1, h2, h3, h4, h5, h6, h7, h8, h9, -⟩ := h
  show (Cond.laysStatic C n d).holds args s none s [] = true
  exact Cond.laysStatic_of h1 h2 h3 h4 h5 h6 h7 h8 h9
/-- .. and what it holds: null or some reference -/
def vx_Zq (C n d : String) (A : Nat → Prop) (U : State) (H : Heap) : Prop := va_Zq C n d A U H ∧ vx_L C n d A U H
theorem vx_Zq.moved {C n d : String} {A : Nat → Prop} {u U : State} {H : Heap} (hvm : u.vm.Alike U.vm) (h : vx_Zq C n d A u H) : vx_Zq C n d A U H := ⟨va_Zq.moved hvm h.1, vx_L.moved hvm h.2⟩
theorem vx_Zq.kept {C n d : String} {A : Nat → Prop} {U : State} {H H1 : Heap} (h : vx_Zq C n d A U H) (hq : ∀ a : Nat, a < H.size → ¬ A a → H1[a]? = H[a]?) : vx_Zq C n d A U H1 := ⟨va_Zq.kept h.1 hq, vx_L.kept h.2 hq⟩
theorem vx_Zq.narrow {C n d : String} {A B : Nat → Prop} {U : State} {H : Heap} (h : vx_Zq C n d A U H) (hAB : ∀ q, B q → A q) : vx_Zq C n d B U H := ⟨va_Zq.narrow h.1 hAB, vx_L.narrow h.2 hAB⟩
theorem vx_Zqof {args : Array Value} {s : State} {C n d : String} {A : Nat → Prop} (hl : (Cond.laysStatic C n d).before args s = true) (hini : (Cond.initialized C).before args s = true) (h : (Cond.isRef (.static C n d)).before args s = true) (hA : ∀ a : Nat, a < s.heap.size → ¬ A a) : vx_Zq C n d A s s.heap := by
  refine ⟨va_Zqof hl hini h hA, ?_⟩
  obtain ⟨c, k, i, f, a, cell, h1, h2, h3, h4, h5, h6, h7, h8, h9⟩ := Cond.laysStatic_spec hl
  exact ⟨c, k, i, f, a, cell, h1, h2, h3, h4, h5, h6, h7, h8, h9, hA a (Array.getElem?_eq_some_iff.mp h5).1⟩
theorem vx_isRef {C n d : String} {v : Value} {A : Nat → Prop} {s : State} {args : Array Value} (h : va_Z C n d v A s s.heap) (hv : v.isRef = true) : (Cond.isRef (.static C n d)).before args s = true := by
  obtain ⟨cf, kf, fi, f, a, cell, h1, h2, h3, h4, h5, h6, h7, -⟩ := h
  have he : (Term.static C n d).eval args s none [] s = some v := by
    simp [Term.eval, State.fieldNamed?, h1, h2, h4, h5, h6, h7]
  simp only [Cond.before, Cond.holds, Cond.value, he]
  cases v <;> simp_all [Value.isRef]
theorem vx_isRefq {C n d : String} {A : Nat → Prop} {s : State} {args : Array Value} (h : va_Zq C n d A s s.heap) : (Cond.isRef (.static C n d)).before args s = true := by
  rcases h with h | ⟨t, h⟩
  · exact vx_isRef h rfl
  · exact vx_isRef h rfl
/-- the same frame, seen from here: as if the method were called anew in this heap -/
theorem vx_rebase {T : State} (X : Stand p l e R s m args below meth c T locs cells slots) {R' : Room} (hf : R'.frames ≤ R.frames) (hl : R'.locals ≤ R.locals) (hc : cells + R'.cells ≤ R.cells) (hs : slots + R'.slots ≤ R.slots) :
    Stand p l e R' ((T.setVm s.vm).setFrames (.invoking m args :: below)) m args below meth c T [] 0 0 := by
  have htop : (T.setVm s.vm).topJava?.isSome := X.here.top
  have hF : ((T.setVm s.vm).setFrames (.invoking m args :: below)).frames = .invoking m args :: below := State.frames_setFrames _ (State.cur_lt_of_top htop)
  obtain ⟨g₀, hg0⟩ := Option.isSome_iff_exists.mp htop
  obtain ⟨r, hr⟩ := State.topJava?_eq_some.mp hg0
  have hl9 : e.platform.stackLimits (T.setVm s.vm).me = e.platform.stackLimits s.me := X.limits
  have hb9 : (T.setVm s.vm).me.stackBytes = s.me.stackBytes := X.bytes
  refine ⟨X.admits, X.cas, X.clock, hF, ?_, X.hears, X.method, X.code, X.here, X.tail, X.warmed, ?_, ?_, ?_⟩
  · have h := X.room
    have hU : ((T.setVm s.vm).setFrames (.invoking m args :: below)).localsInUse = s.localsInUse := by
      rw [State.localsInUse_invoking hF (meth := meth) (c := c) X.method X.code, State.localsInUse_invoking X.frames X.method X.code]
    simp only [State.hasRoom, Bool.and_eq_true, decide_eq_true_eq] at h ⊢
    obtain ⟨⟨⟨⟨h1, h2, h3, h4, h5, h6⟩, h7⟩, h8⟩, h9⟩ := h
    rw [X.frames, List.length_cons] at h2 h3
    have q1 := X.heapSize
    have q2 := X.used
    simp only [hF, hU, List.length_cons, State.stackLimits_setFrames, State.stackBytes_setFrames, hl9, hb9]
    refine ⟨⟨⟨⟨by omega, by omega, by omega, by omega, by omega, h6⟩, ?_⟩, ?_⟩, X.book⟩
    · show T.heap.size + R'.cells ≤ e.platform.maxCells
      omega
    · show T.slotsUsed + R'.slots ≤ e.platform.maxSlots
      omega
  · rw [State.stackLimits_setFrames]; rfl
  · rw [State.stackBytes_setFrames]; rfl
  · refine ⟨?_, Nat.le_refl _, Nat.le_refl _, ?_, ?_, fun a c9 h9 => ⟨c9, h9, rfl, rfl, fun _ _ => rfl⟩⟩
    · obtain ⟨t, ht, -⟩ := State.frames_cons hr
      show T.setVm s.vm = { ((T.setVm s.vm).setFrames (.invoking m args :: below)).setFrames (T.setVm s.vm).frames with heap := T.heap, slotsUsed := T.slotsUsed }
      rw [State.setFrames_setFrames, State.setFrames_self ht]
      rfl
    · show T.slotsUsed = T.slotsUsed + ((T.heap.toList.drop T.heap.size).map (·.slots.size)).sum
      rw [List.drop_eq_nil_of_le (Nat.le_of_eq Array.length_toList)]
      rfl
    · show ((T.heap.toList.drop T.heap.size).map (·.slots.size)).sum ≤ 0
      rw [List.drop_eq_nil_of_le (Nat.le_of_eq Array.length_toList)]
      exact Nat.le_refl _
/-- 'throw new E()': new; dup; invokespecial; athrow -/
theorem vx_throw0 {cc : ByteArray} {pc : Nat} (hexec : p.tables.exec = Jvm.exec) (hb : c.code = cc) (hl : l.stackTraces = false) {own cls : String} {names : List String} {ik ic mc ms : Nat} {A : Nat → Prop}
    (hown : s.vm.findClass own = some m.cls) (hcls : Bundle.fit cls = true) (hnames : ∀ n ∈ names, Bundle.fit n = true)
    (hk : (Cond.classLink own ik cls).before args s = true) (hini : (Cond.initialized cls).before args s = true) (hat : ∀ w ∈ vx_at0 own ic cls names, w.before args s = true)
    (hgood : ∀ w ∈ Cond.classLink own ik cls :: Cond.initialized cls :: vx_at0 own ic cls names, vx_ot w = true)
    (hU : vx_Zq Bundle.tN "UNASSIGNED_STACK" Bundle.steD A s s.heap) (hN : vx_Zq Bundle.tN "SUPPRESSED_SENTINEL" Bundle.listD A s s.heap) (hS : va_S A s.heap H locs) (hsize : ls.size = c.maxLocals)
    (d0 : decode cc pc = .ok (.new ik, 3)) (d3 : decode cc (pc + 3) = .ok (.dup, 1)) (d4 : decode cc (pc + 4) = .ok (.invokespecial ic, 3)) (d7 : decode cc (pc + 7) = .ok (.athrow, 1))
    (hout : ∀ x ∈ c.exceptionTable.toList, covers x (pc + 7) = false)
    (hRframes : names.length + 3 < R.frames) (hRlocals : (rest.map fun v => v.category).sum + (13 * (names.length + 1) + 42) ≤ R.locals) (hRcells : cells + 1 ≤ R.cells) (hRslots : slots + 6 ≤ R.slots) (hlocks : meth.locks = false)
    (hx : ∀ t : State, s.vm.Alike t.vm → H.size ≤ t.heap.size → (∀ q : Nat, q < H.size → t.heap[q]? = H[q]?) → XC cls s t)
    (hf : ∀ z ∈ locs, free z.base) (hc : cells + 1 ≤ mc) (hs : slots + 6 ≤ ms) :
    W p l e R s m args below meth c H locs cells slots (vx_MQ below Qc XC args s mc ms free) (F0 m pc ls rest) := by
  intro T hT X
  have htr : e.platform.stackTraces = false := (show e.platform.stackTraces = l.stackTraces by rw [X.admits.platform]).trans hl
  have Y := vx_rebase X (R' := { frames := R.frames, locals := R.locals, cells := 1, slots := 6 }) (Nat.le_refl _) (Nat.le_refl _) hRcells hRslots
  obtain ⟨s', hA⟩ : ∃ z, z = (T.setVm s.vm).setFrames (.invoking m args :: below) := ⟨_, rfl⟩
  rw [← hA] at Y
  have hvm : s'.vm = s.vm := by rw [hA]; rfl
  have hhp : s'.heap = H := by rw [hA]; exact hT
  have hW0 : s.WarmedH s'.vm := by rw [hvm]; exact State.WarmedH.refl s
  have hat' : ∀ w ∈ vx_at0 own ic cls names, w.before args s' = true := fun w hw => vx_ot_at hW0 hvm.symm (hgood w (List.mem_cons_of_mem _ (List.mem_cons_of_mem _ hw))) (hat w hw)
  have hk' : (Cond.classLink own ik cls).before args s' = true := vx_ot_at hW0 hvm.symm (hgood _ List.mem_cons_self) hk
  have hini' : (Cond.initialized cls).before args s' = true := vx_ot_at hW0 hvm.symm (hgood _ (List.mem_cons_of_mem _ List.mem_cons_self)) hini
  have hU' : vx_Zq Bundle.tN "UNASSIGNED_STACK" Bundle.steD A s' s'.heap := by rw [hhp]; exact vx_Zq.moved hW0.alike (hU.kept hS.2.1)
  have hN' : vx_Zq Bundle.tN "SUPPRESSED_SENTINEL" Bundle.listD A s' s'.heap := by rw [hhp]; exact vx_Zq.moved hW0.alike (hN.kept hS.2.1)
  have h : ∀ w ∈ Bundle.ownAtoms0 own ic cls names, w.before args s' = true := vx_own hat' (vx_isRefq hU'.1) (vx_isRefq hN'.1) hU'.2.word hN'.2.word
  have hown' : s'.vm.findClass own = some m.cls := by rw [hvm]; exact hown
  have hins : (Cond.instantiable cls 6).before args s' = true := h _ (by simp [Bundle.ownAtoms0])
  obtain ⟨vm₁, cX, kX, hfX, hkX, -, -, X₁, st1⟩ := Y.newCold hexec (own := own) (C := cls) (index := ik) (n := 6) hown' hk' hins hini'
    (g := F0 m pc ls rest) rfl (by rw [hb]; exact d0) (Nat.le_refl _) (Nat.le_refl _)
  generalize hT1 : (T.setVm vm₁).pushCell { cls := cX, slots := kX.instanceTypes.map defaultValue, vm := .none } = T1 at X₁ st1
  have hcat : (Value.ref T.heap.size).category = 1 := rfl
  have hcellA : T1.heap[T.heap.size]? = some (freshCell cX kX) := by rw [← hT1]; exact State.heap_pushCell_size _ _
  have d3' : decode c.code (pc + 3) = .ok (.dup, 1) := by rw [hb]; exact d3
  obtain ⟨U, hsteps, hrun, hend, hW, hsame, ce, hce, hO⟩ := X₁.ctorThrow0 hexec htr (own := own) (cls := cls) (names := names) (ic := ic) hown' hcls hnames h (fun x hx => nomatch hx) hfX hkX hcellA (by rw [hhp, hT]; exact Nat.le_refl _)
    (g := { method := m, pc := pc + 4, locals := ls, stack := .ref T.heap.size :: .ref T.heap.size :: rest, locked := none }) rfl hsize rfl rfl (rest := rest) rfl
    (by rw [hb]; exact d4) (by rw [hb]; exact d7) hout hRframes (by simp only [List.map_cons, List.sum_cons, hcat]; omega) hlocks
  obtain ⟨f1, f2⟩ := vx_frame hsame
  rw [hhp] at f1 f2
  have hWs : s.WarmedH U.vm := State.WarmedH.trans hW0 hW
  have hcl : s.vm.findClass cls = some ce.cls := by
    have h9 := hO.cls
    rw [hvm] at h9
    exact h9
  have hall : s.sameButNew ({ U with vm := s.vm } : State) locs mc ms := by
    subst hA
    obtain ⟨e1, e2⟩ := hsame
    rw [State.setFrames_setFrames] at e1
    have h2 : (T.setVm s.vm).sameButNew ({ U with vm := s.vm } : State) [] (0 + 1) (0 + 6) := ⟨e1, e2⟩
    have h3 := X.same.trans h2
    rw [List.append_nil] at h3
    exact h3.mono hc hs
  refine ⟨U, ?_, .threw T.heap.size, hrun, hend, Or.inr ⟨T.heap.size, rfl, cls, ce, locs, hx U hWs.alike f1 (fun q hq => f2 q hq (fun z hz => nomatch hz)), hce, hO.vm, hcl, hWs, hall, hf⟩⟩
  refine st1 _ ?_
  show Steps p.tables e below (T1.setTop { method := m, pc := pc + 3, locals := ls, stack := .ref T.heap.size :: rest, locked := none }) _
  jvm_step X₁.here [X₁.here.top, hexec, d3', Value.category]
  exact hsteps
/-- 'throw new E("text")': new; dup; ldc; invokespecial; athrow -/
theorem vx_throwS {cc : ByteArray} {pc : Nat} (hexec : p.tables.exec = Jvm.exec) (hb : c.code = cc) (hl : l.stackTraces = false) {own cls text : String} {names : List String} {ik is ic mc ms sa : Nat} {A : Nat → Prop}
    (hown : s.vm.findClass own = some m.cls) (hcls : Bundle.fit cls = true) (hnames : ∀ n ∈ names, Bundle.fit n = true)
    (hk : (Cond.classLink own ik cls).before args s = true) (hini : (Cond.initialized cls).before args s = true) (hstr : vk_R own is text sa s) (hat : ∀ w ∈ vx_atS own ic cls names, w.before args s = true)
    (hgood : ∀ w ∈ Cond.classLink own ik cls :: Cond.initialized cls :: vx_atS own ic cls names, vx_ot w = true)
    (hU : vx_Zq Bundle.tN "UNASSIGNED_STACK" Bundle.steD A s s.heap) (hN : vx_Zq Bundle.tN "SUPPRESSED_SENTINEL" Bundle.listD A s s.heap) (hS : va_S A s.heap H locs) (hsize : ls.size = c.maxLocals)
    (d0 : decode cc pc = .ok (.new ik, 3)) (d3 : decode cc (pc + 3) = .ok (.dup, 1)) (d4 : decode cc (pc + 4) = .ok (.ldc is, 2)) (d6 : decode cc (pc + 6) = .ok (.invokespecial ic, 3)) (d9 : decode cc (pc + 9) = .ok (.athrow, 1))
    (hout : ∀ x ∈ c.exceptionTable.toList, covers x (pc + 9) = false)
    (hRframes : names.length + 3 < R.frames) (hRlocals : (rest.map fun v => v.category).sum + (13 * (names.length + 1) + 43) ≤ R.locals) (hRcells : cells + 1 ≤ R.cells) (hRslots : slots + 6 ≤ R.slots) (hlocks : meth.locks = false)
    (hx : ∀ t : State, s.vm.Alike t.vm → H.size ≤ t.heap.size → (∀ q : Nat, q < H.size → t.heap[q]? = H[q]?) → XC cls s t)
    (hf : ∀ z ∈ locs, free z.base) (hc : cells + 1 ≤ mc) (hs : slots + 6 ≤ ms) :
    W p l e R s m args below meth c H locs cells slots (vx_MQ below Qc XC args s mc ms free) (F0 m pc ls rest) := by
  intro T hT X
  have htr : e.platform.stackTraces = false := (show e.platform.stackTraces = l.stackTraces by rw [X.admits.platform]).trans hl
  have Y := vx_rebase X (R' := { frames := R.frames, locals := R.locals, cells := 1, slots := 6 }) (Nat.le_refl _) (Nat.le_refl _) hRcells hRslots
  obtain ⟨s', hA⟩ : ∃ z, z = (T.setVm s.vm).setFrames (.invoking m args :: below) := ⟨_, rfl⟩
  rw [← hA] at Y
  have hvm : s'.vm = s.vm := by rw [hA]; rfl
  have hhp : s'.heap = H := by rw [hA]; exact hT
  have hW0 : s.WarmedH s'.vm := by rw [hvm]; exact State.WarmedH.refl s
  have hat' : ∀ w ∈ vx_atS own ic cls names, w.before args s' = true := fun w hw => vx_ot_at hW0 hvm.symm (hgood w (List.mem_cons_of_mem _ (List.mem_cons_of_mem _ hw))) (hat w hw)
  have hk' : (Cond.classLink own ik cls).before args s' = true := vx_ot_at hW0 hvm.symm (hgood _ List.mem_cons_self) hk
  have hini' : (Cond.initialized cls).before args s' = true := vx_ot_at hW0 hvm.symm (hgood _ (List.mem_cons_of_mem _ List.mem_cons_self)) hini
  have hU' : vx_Zq Bundle.tN "UNASSIGNED_STACK" Bundle.steD A s' s'.heap := by rw [hhp]; exact vx_Zq.moved hW0.alike (hU.kept hS.2.1)
  have hN' : vx_Zq Bundle.tN "SUPPRESSED_SENTINEL" Bundle.listD A s' s'.heap := by rw [hhp]; exact vx_Zq.moved hW0.alike (hN.kept hS.2.1)
  have h : ∀ w ∈ Bundle.ownAtoms own ic cls names, w.before args s' = true := vx_own hat' (vx_isRefq hU'.1) (vx_isRefq hN'.1) hU'.2.word hN'.2.word
  have hown' : s'.vm.findClass own = some m.cls := by rw [hvm]; exact hown
  have hins : (Cond.instantiable cls 6).before args s' = true := h _ (by simp [Bundle.ownAtoms])
  obtain ⟨vm₁, cX, kX, hfX, hkX, -, -, X₁, st1⟩ := Y.newCold hexec (own := own) (C := cls) (index := ik) (n := 6) hown' hk' hins hini'
    (g := F0 m pc ls rest) rfl (by rw [hb]; exact d0) (Nat.le_refl _) (Nat.le_refl _)
  generalize hT1 : (T.setVm vm₁).pushCell { cls := cX, slots := kX.instanceTypes.map defaultValue, vm := .none } = T1 at X₁ st1
  have hcat : (Value.ref T.heap.size).category = 1 := rfl
  have hcellA : T1.heap[T.heap.size]? = some (freshCell cX kX) := by rw [← hT1]; exact State.heap_pushCell_size _ _
  have d3' : decode c.code (pc + 3) = .ok (.dup, 1) := by rw [hb]; exact d3
  have d4' : decode c.code (pc + 4) = .ok (.ldc is, 2) := by rw [hb]; exact d4
  have hstr' : vk_R own is text sa s' := vk_R.warm hW0 hstr
  obtain ⟨U, hsteps, hrun, hend, hW, hsame, ce, hce, hO⟩ := X₁.ctorThrowS hexec htr (own := own) (cls := cls) (names := names) (ic := ic) hown' hcls hnames h (fun x hx => nomatch hx) hfX hkX hcellA (by rw [hhp, hT]; exact Nat.le_refl _) (msg := .ref sa) rfl
    (g := { method := m, pc := pc + 6, locals := ls, stack := .ref sa :: .ref T.heap.size :: .ref T.heap.size :: rest, locked := none }) rfl hsize rfl rfl (rest := rest) rfl
    (by rw [hb]; exact d6) (by rw [hb]; exact d9) hout hRframes (by simp only [List.map_cons, List.sum_cons, hcat]; omega) hlocks
  obtain ⟨f1, f2⟩ := vx_frame hsame
  rw [hhp] at f1 f2
  have hWs : s.WarmedH U.vm := State.WarmedH.trans hW0 hW
  have hcl : s.vm.findClass cls = some ce.cls := by
    have h9 := hO.cls
    rw [hvm] at h9
    exact h9
  have hall : s.sameButNew ({ U with vm := s.vm } : State) locs mc ms := by
    subst hA
    obtain ⟨e1, e2⟩ := hsame
    rw [State.setFrames_setFrames] at e1
    have h2 : (T.setVm s.vm).sameButNew ({ U with vm := s.vm } : State) [] (0 + 1) (0 + 6) := ⟨e1, e2⟩
    have h3 := X.same.trans h2
    rw [List.append_nil] at h3
    exact h3.mono hc hs
  refine ⟨U, ?_, .threw T.heap.size, hrun, hend, Or.inr ⟨T.heap.size, rfl, cls, ce, locs, hx U hWs.alike f1 (fun q hq => f2 q hq (fun z hz => nomatch hz)), hce, hO.vm, hcl, hWs, hall, hf⟩⟩
  refine st1 _ ?_
  show Steps p.tables e below (T1.setTop { method := m, pc := pc + 3, locals := ls, stack := .ref T.heap.size :: rest, locked := none }) _
  jvm_step X₁.here [X₁.here.top, hexec, d3', Value.category]
  exact X₁.ldcString hexec (own := own) (text := text) (index := is) (a := sa) hown' hstr'.1 hstr'.2
    (g := { method := m, pc := pc + 4, locals := ls, stack := .ref T.heap.size :: .ref T.heap.size :: rest, locked := none }) rfl d4' _ hsteps
/-- 'throw new E("text")', the text by a wide index -/
theorem vx_throwSW {cc : ByteArray} {pc : Nat} (hexec : p.tables.exec = Jvm.exec) (hb : c.code = cc) (hl : l.stackTraces = false) {own cls text : String} {names : List String} {ik is ic mc ms sa : Nat} {A : Nat → Prop}
    (hown : s.vm.findClass own = some m.cls) (hcls : Bundle.fit cls = true) (hnames : ∀ n ∈ names, Bundle.fit n = true)
    (hk : (Cond.classLink own ik cls).before args s = true) (hini : (Cond.initialized cls).before args s = true) (hstr : vk_R own is text sa s) (hat : ∀ w ∈ vx_atS own ic cls names, w.before args s = true)
    (hgood : ∀ w ∈ Cond.classLink own ik cls :: Cond.initialized cls :: vx_atS own ic cls names, vx_ot w = true)
    (hU : vx_Zq Bundle.tN "UNASSIGNED_STACK" Bundle.steD A s s.heap) (hN : vx_Zq Bundle.tN "SUPPRESSED_SENTINEL" Bundle.listD A s s.heap) (hS : va_S A s.heap H locs) (hsize : ls.size = c.maxLocals)
    (d0 : decode cc pc = .ok (.new ik, 3)) (d3 : decode cc (pc + 3) = .ok (.dup, 1)) (d4 : decode cc (pc + 4) = .ok (.ldc_w is, 3)) (d7 : decode cc (pc + 7) = .ok (.invokespecial ic, 3)) (d10 : decode cc (pc + 10) = .ok (.athrow, 1))
    (hout : ∀ x ∈ c.exceptionTable.toList, covers x (pc + 10) = false)
    (hRframes : names.length + 3 < R.frames) (hRlocals : (rest.map fun v => v.category).sum + (13 * (names.length + 1) + 43) ≤ R.locals) (hRcells : cells + 1 ≤ R.cells) (hRslots : slots + 6 ≤ R.slots) (hlocks : meth.locks = false)
    (hx : ∀ t : State, s.vm.Alike t.vm → H.size ≤ t.heap.size → (∀ q : Nat, q < H.size → t.heap[q]? = H[q]?) → XC cls s t)
    (hf : ∀ z ∈ locs, free z.base) (hc : cells + 1 ≤ mc) (hs : slots + 6 ≤ ms) :
    W p l e R s m args below meth c H locs cells slots (vx_MQ below Qc XC args s mc ms free) (F0 m pc ls rest) := by
  intro T hT X
  have htr : e.platform.stackTraces = false := (show e.platform.stackTraces = l.stackTraces by rw [X.admits.platform]).trans hl
  have Y := vx_rebase X (R' := { frames := R.frames, locals := R.locals, cells := 1, slots := 6 }) (Nat.le_refl _) (Nat.le_refl _) hRcells hRslots
  obtain ⟨s', hA⟩ : ∃ z, z = (T.setVm s.vm).setFrames (.invoking m args :: below) := ⟨_, rfl⟩
  rw [← hA] at Y
  have hvm : s'.vm = s.vm := by rw [hA]; rfl
  have hhp : s'.heap = H := by rw [hA]; exact hT
  have hW0 : s.WarmedH s'.vm := by rw [hvm]; exact State.WarmedH.refl s
  have hat' : ∀ w ∈ vx_atS own ic cls names, w.before args s' = true := fun w hw => vx_ot_at hW0 hvm.symm (hgood w (List.mem_cons_of_mem _ (List.mem_cons_of_mem _ hw))) (hat w hw)
  have hk' : (Cond.classLink own ik cls).before args s' = true := vx_ot_at hW0 hvm.symm (hgood _ List.mem_cons_self) hk
  have hini' : (Cond.initialized cls).before args s' = true := vx_ot_at hW0 hvm.symm (hgood _ (List.mem_cons_of_mem _ List.mem_cons_self)) hini
  have hU' : vx_Zq Bundle.tN "UNASSIGNED_STACK" Bundle.steD A s' s'.heap := by rw [hhp]; exact vx_Zq.moved hW0.alike (hU.kept hS.2.1)
  have hN' : vx_Zq Bundle.tN "SUPPRESSED_SENTINEL" Bundle.listD A s' s'.heap := by rw [hhp]; exact vx_Zq.moved hW0.alike (hN.kept hS.2.1)
  have h : ∀ w ∈ Bundle.ownAtoms own ic cls names, w.before args s' = true := vx_own hat' (vx_isRefq hU'.1) (vx_isRefq hN'.1) hU'.2.word hN'.2.word
  have hown' : s'.vm.findClass own = some m.cls := by rw [hvm]; exact hown
  have hins : (Cond.instantiable cls 6).before args s' = true := h _ (by simp [Bundle.ownAtoms])
  obtain ⟨vm₁, cX, kX, hfX, hkX, -, -, X₁, st1⟩ := Y.newCold hexec (own := own) (C := cls) (index := ik) (n := 6) hown' hk' hins hini'
    (g := F0 m pc ls rest) rfl (by rw [hb]; exact d0) (Nat.le_refl _) (Nat.le_refl _)
  generalize hT1 : (T.setVm vm₁).pushCell { cls := cX, slots := kX.instanceTypes.map defaultValue, vm := .none } = T1 at X₁ st1
  have hcat : (Value.ref T.heap.size).category = 1 := rfl
  have hcellA : T1.heap[T.heap.size]? = some (freshCell cX kX) := by rw [← hT1]; exact State.heap_pushCell_size _ _
  have d3' : decode c.code (pc + 3) = .ok (.dup, 1) := by rw [hb]; exact d3
  have d4' : decode c.code (pc + 4) = .ok (.ldc_w is, 3) := by rw [hb]; exact d4
  have hstr' : vk_R own is text sa s' := vk_R.warm hW0 hstr
  obtain ⟨U, hsteps, hrun, hend, hW, hsame, ce, hce, hO⟩ := X₁.ctorThrowS hexec htr (own := own) (cls := cls) (names := names) (ic := ic) hown' hcls hnames h (fun x hx => nomatch hx) hfX hkX hcellA (by rw [hhp, hT]; exact Nat.le_refl _) (msg := .ref sa) rfl
    (g := { method := m, pc := pc + 7, locals := ls, stack := .ref sa :: .ref T.heap.size :: .ref T.heap.size :: rest, locked := none }) rfl hsize rfl rfl (rest := rest) rfl
    (by rw [hb]; exact d7) (by rw [hb]; exact d10) hout hRframes (by simp only [List.map_cons, List.sum_cons, hcat]; omega) hlocks
  obtain ⟨f1, f2⟩ := vx_frame hsame
  rw [hhp] at f1 f2
  have hWs : s.WarmedH U.vm := State.WarmedH.trans hW0 hW
  have hcl : s.vm.findClass cls = some ce.cls := by
    have h9 := hO.cls
    rw [hvm] at h9
    exact h9
  have hall : s.sameButNew ({ U with vm := s.vm } : State) locs mc ms := by
    subst hA
    obtain ⟨e1, e2⟩ := hsame
    rw [State.setFrames_setFrames] at e1
    have h2 : (T.setVm s.vm).sameButNew ({ U with vm := s.vm } : State) [] (0 + 1) (0 + 6) := ⟨e1, e2⟩
    have h3 := X.same.trans h2
    rw [List.append_nil] at h3
    exact h3.mono hc hs
  refine ⟨U, ?_, .threw T.heap.size, hrun, hend, Or.inr ⟨T.heap.size, rfl, cls, ce, locs, hx U hWs.alike f1 (fun q hq => f2 q hq (fun z hz => nomatch hz)), hce, hO.vm, hcl, hWs, hall, hf⟩⟩
  refine st1 _ ?_
  show Steps p.tables e below (T1.setTop { method := m, pc := pc + 3, locals := ls, stack := .ref T.heap.size :: rest, locked := none }) _
  jvm_step X₁.here [X₁.here.top, hexec, d3', Value.category]
  exact X₁.ldcStringW hexec (own := own) (text := text) (index := is) (a := sa) hown' hstr'.1 hstr'.2
    (g := { method := m, pc := pc + 4, locals := ls, stack := .ref T.heap.size :: .ref T.heap.size :: rest, locked := none }) rfl d4' _ hsteps
end Ends
section Bodies
variable {l : Launch}
theorem vx_ofW {y : MethodName} {ws ws' : List Cond} {rm : Room} {Pc : Array Value → State → Prop} {Qc : Array Value → State → Outcome → State → Prop} {XC : String → State → State → Prop} {mc ms : Nat} {free : Addr → Prop} {cc : ByteArray} {maxL : Nat} {ret : Option FieldType}
    (hy : plainName y.cls = true) (hw : ws = Cond.code y cc maxL ret :: ws')
    (body : ∀ p e s m args below meth c s₁, BodyLoose p l y (headSpec ws rm) cc maxL ret e s m args below meth c s₁ → c.maxLocals = maxL → (∀ x ∈ c.exceptionTable.toList, False) → Pc args s →
      W p l e (headSpec ws rm).room s m args below meth c s.heap [] 0 0 (vx_MQ below Qc XC args s mc ms free) (entryFrame m args maxL)) : vx_Met l y ws rm Pc Qc XC mc ms free := by
  refine MetFree.of_bodyS (code := cc) (maxLocals := maxL) (ret := ret) hy ?_ ?_
  · intro args s m h hn
    obtain ⟨meth, c, h1, h2, h3, h4, h5, h6, -, -⟩ := Cond.code_spec hn (atoms_spec (ws := ws) h _ (by rw [hw]; exact List.mem_cons_self))
    exact ⟨meth, c, h1, h2, h3, h4, h5, h6⟩
  · intro p e s m args below meth c s₁ B hml hP _
    have hh0 : s₁.heap = s.heap := by rw [B.state]; rfl
    have ht : ∀ x ∈ c.exceptionTable.toList, False := by
      obtain ⟨meth9, c9, h1, h2, -, -, -, -, h7, -⟩ := Cond.code_spec B.named (atoms_spec (ws := ws) B.pre _ (by rw [hw]; exact List.mem_cons_self))
      cases Option.some.inj (h1.symm.trans B.method)
      cases Option.some.inj (h2.symm.trans (Stand.of_body B).code)
      intro x hx
      rw [Array.isEmpty_iff.mp h7] at hx
      cases hx
    obtain ⟨t, a1, o, b1, b2, b3⟩ := body p e s m args below meth c s₁ B hml ht hP s₁ hh0 (Stand.of_body B)
    exact ⟨t, o, a1, b1, b2, b3⟩
/-- the table of a body with handlers -/
theorem vx_table {p : Program} {x y : MethodName} {S : Spec} {cc bytes : ByteArray} {maxL maxL' : Nat} {ret ret' : Option FieldType} {e : Env} {s s₁ : State} {m : MethodId} {args : Array Value} {below : List Frame} {meth : Method} {c : Code} {hh : List (Nat × Nat × Nat × Nat)}
    (B : BodyLoose p l y S cc maxL ret e s m args below meth c s₁) (h : (Cond.codeWith y bytes maxL' ret' hh).before args s = true) : c.exceptionTable.toList = tableOf hh := by
  obtain ⟨m9, meth9, c9, hn9, h1, h2, -, -, h6, -⟩ := Cond.codeWith_spec h
  cases Option.some.inj (hn9.symm.trans B.named)
  cases Option.some.inj (h1.symm.trans B.method)
  cases Option.some.inj (h2.symm.trans (Stand.of_body B).code)
  rw [← h6, table_eq]
end Bodies
end VXA
/-! ===== END ===== -/
/-! ===== BEGIN a static call of a method with an exception table ===== -/
section VXS
variable {p : Program} {l : Launch} {e : Env} {R : Room} {s : State} {m : MethodId} {args : Array Value} {below : List Frame} {meth : Method} {c : Code} {T : State} {H : Heap} {locs : List Loc} {cells slots : Nat}
abbrev vx_CSW (R : Room) (s : State) (args : Array Value) (own : String) (index : Nat) (y : MethodName) (bytes : ByteArray) (maxL : Nat) (ret : Option FieldType) (hh : List (Nat × Nat × Nat × Nat)) (ws : List Cond) (rm : Room) (mc ms n : Nat) : Prop :=
  (rm.cells = mc ∧ rm.slots = ms ∧ rm.frames + 1 ≤ R.frames ∧ 8 + (maxL + 11) + rm.locals ≤ R.locals ∧ (∀ w ∈ ws, ∀ (a' : Array Value) (U : State), s.WarmedH U.vm → w.before a' U = true) ∧ Cond.codeWith y bytes maxL ret hh ∈ ws) ∧
  (Cond.codeWith y bytes maxL ret hh).before args s = true ∧ (Cond.initialized y.cls).before args s = true ∧ (y.cls ≠ "java/lang/invoke/MethodHandle" ∧ y.cls ≠ "java/lang/invoke/VarHandle") ∧
  (∀ sig, parseMethodDescriptor y.desc = some sig → n = sig.parameters.length) ∧ (Cond.methodLink own index y).before args s = true ∧ (Cond.static y).before args s = true
theorem vx_cwSW {own : String} {index maxL mc ms : Nat} {y : MethodName} {bytes : ByteArray} {ret : Option FieldType} {hh : List (Nat × Nat × Nat × Nat)} {Ts ws ws' : List Cond} {rm : Room} (n : Nat) (ht : ∀ w ∈ Ts, w.before args s = true) (hT : GoodIn Ts (va_wsS own index y ws)) (hw : ws = Cond.codeWith y bytes maxL ret hh :: ws') (hrc : rm.cells = mc) (hrs : rm.slots = ms)
    (hd : y.cls ≠ "java/lang/invoke/MethodHandle" ∧ y.cls ≠ "java/lang/invoke/VarHandle" ∧ (parseMethodDescriptor y.desc).map (fun d => d.parameters.length) = some n) (hR : rm.frames + 1 ≤ R.frames ∧ 8 + (maxL + 11) + rm.locals ≤ R.locals) :
    vx_CSW R s args own index y bytes maxL ret hh ws rm mc ms n := by
  have ok : ∀ w ∈ va_wsS own index y ws, w.before args s = true := fun w h => ht w (hT w h).1
  have hG : GoodIn Ts ws := fun w h => hT w (by unfold va_wsS; exact List.mem_append_right _ h)
  have hc : Cond.codeWith y bytes maxL ret hh ∈ ws := by rw [hw]; exact List.mem_cons_self
  refine ⟨⟨hrc, hrs, hR.1, hR.2, pay_in ht hG, hc⟩, ht _ (hG _ hc).1, ok _ (by simp [va_wsS]), ⟨hd.1, hd.2.1⟩, fun sig h => ?_, ok _ (by simp [va_wsS]), ok _ (by simp [va_wsS])⟩
  have h2 := hd.2.2
  rw [h] at h2
  exact (Option.some.inj h2).symm
theorem vx_callSW (X : Stand p l e R s m args below meth c T locs cells slots) (hexec : p.tables.exec = Jvm.exec) {own : String} {index : Nat} {y : MethodName} {bytes : ByteArray} {maxL : Nat} {ret : Option FieldType} {hh : List (Nat × Nat × Nat × Nat)}
    (hown : s.vm.findClass own = some m.cls) (hlink : (Cond.methodLink own index y).before args s = true) (hstat : (Cond.static y).before args s = true) (hinit : (Cond.initialized y.cls).before args s = true)
    (hcode : (Cond.codeWith y bytes maxL ret hh).before args s = true) (hy : y.cls ≠ "java/lang/invoke/MethodHandle" ∧ y.cls ≠ "java/lang/invoke/VarHandle")
    {W9 : Nat} {Pre : Pt → Array Value → Prop} {Post : Pt → Array Value → Option Value → Pt → Prop} (hK : Back l R p e below s args y 3 W9 Pre Post)
    {g : JFrame} (hg : g.method = m) (hsize : g.locals.size = c.maxLocals) {argsL rest : List Value} (hlen : ∀ sig, parseMethodDescriptor y.desc = some sig → argsL.length = sig.parameters.length)
    (hstack : g.stack = argsL.reverse ++ rest) (hW : 2 * g.monitorRoom + (rest.map fun v => v.category).sum ≤ W9) (hdg : decode c.code g.pc = .ok (.invokestatic index, 3))
    (hpre : ∀ vm₁, s.WarmedH vm₁ → Pre ⟨T.setVm vm₁, locs, cells, slots⟩ argsL.toArray) :
    ∃ (v : Option Value) (vm₁ : Vm) (B : Pt), s.WarmedH vm₁ ∧ Stand p l e R s m args below meth c B.U B.locs B.cells B.slots ∧ Post ⟨T.setVm vm₁, locs, cells, slots⟩ argsL.toArray v B ∧
      ∀ target, Steps p.tables e below (B.U.setTop { g with pc := g.pc + 3, stack := v.toList ++ rest }) target → Steps p.tables e below (T.setTop g) target := by
  obtain ⟨mk, methM, cM, hnamed, hmethM, -, -, -, -, -, -, hsigM⟩ := Cond.codeWith_spec hcode
  have hstatic : methM.isStatic = true := Cond.static_spec hnamed hmethM hstat
  obtain ⟨kP, hkP, -⟩ := className_of_methodNamed hnamed
  have hinitP : kP.init = .initialized := Cond.initialized_spec (findClass_of_methodNamed hnamed) hkP hinit
  obtain ⟨vm₁, X₁, hstep₁⟩ := X.invokestatic hexec hown hlink hnamed hmethM hstatic hkP hinitP hy (g := g) hg (argsL := argsL) (rest := rest) (hlen _ hsigM) hstack hdg
  obtain ⟨v, B, X', hpost, hsteps⟩ := hK m meth c ⟨T.setVm vm₁, locs, cells, slots⟩ { g with stack := rest } (.invokestatic index) mk argsL.toArray X₁ hg hsize hdg hW (X₁.named hnamed) (hpre vm₁ X₁.warmed)
  exact ⟨v, vm₁, B, X₁.warmed, X', hpost, fun target h => hstep₁ _ fun acts => by rw [doInvoke_state]; exact hsteps.trans h⟩
theorem vx_runSW {y : MethodName} {bytes cc : ByteArray} {maxL nL mc ms n index : Nat} {ret : Option FieldType} {hh : List (Nat × Nat × Nat × Nat)} {ws : List Cond} {rm : Room} {Pc : Array Value → State → Prop} {Qc : Array Value → State → Outcome → State → Prop} {free : Addr → Prop} {Ts : List Cond} {own : String} {As rest : List Value} {g : JFrame}
    (S : CallFix p m c cc nL s args Ts own) (hM : Met l y ws rm Pc Qc mc ms free) (cw : vx_CSW R s args own index y bytes maxL ret hh ws rm mc ms n) (hp : PreS s H Pc As)
    (hg : g.method = m) (hn : As.length = n) (hsize : g.locals.size = nL) (hstack : g.stack = As.reverse ++ rest) (hW : 2 * g.monitorRoom + (rest.map fun v => v.category).sum ≤ 8) (hdg : decode cc g.pc = .ok (.invokestatic index, 3)) (hf : cells + mc ≤ R.cells ∧ slots + ms ≤ R.slots) :
    va_Run p l e R s m args below meth c H locs cells slots mc ms g rest (Qc As.toArray) (free) := by
  obtain ⟨⟨hrc, hrs, hfr, hlo, hws, hcw⟩, hcode, hini, hy, hlen, hl, hstt⟩ := cw
  have hK : Back l R p e below s args y 3 8 (PreOf R mc ms Pc) (PostOf Qc mc ms free) := va_backW (hh := hh) (bytes := bytes) (maxL := maxL) (ret := ret) hM hp.1 hrc hrs hfr hlo hws hcw (fun a' U hW => word_at hW (Or.inl (by first | rfl | simp [Cond.onTables, Cond.keeps, Cond.steady])) hini)
  obtain ⟨hx, hb, hml, ho, -⟩ := S
  intro T hT X
  obtain ⟨v, vm₁, ⟨U', l2, c2, s2⟩, hW₁, X', ⟨g', mk, t, L, e1, e2, hq, h1, hL, h2, h3⟩, st⟩ := vx_callSW X hx (hh := hh) (bytes := bytes) (maxL := maxL) (ret := ret) ho hl hstt hini hcode hy hK hg (hsize.trans hml.symm) (argsL := As) (rest := rest) (fun sig h => hn.trans (hlen sig h)) hstack hW (by rw [hb]; exact hdg)
    (fun vm₁ hW₁ => ⟨hf.1, hf.2, hp.2 (T.setVm vm₁) hT hW₁⟩)
  dsimp only [Pt.U, Pt.locs, Pt.cells, Pt.slots] at X' e1 e2 h1 h2 h3 st
  subst h1; subst h2; subst h3
  exact ⟨v, (T.setVm vm₁).calling g' mk As.toArray, t, U', L, hT, X', hL, e1, e2, hq, st⟩
/-- not caught here, past rows that name other classes: it goes on to the caller -/
theorem vx_outP {p : Program} {l : Launch} {e : Env} {R : Room} {s : State} {m : MethodId} {args : Array Value} {below : List Frame} {meth : Method} {c : Code} {H : Heap} {locs : List Loc} {cells slots : Nat} {free : Addr → Prop} {ls : Array Slot} {rest : List Value} {Qc : Array Value → State → Outcome → State → Prop} {XC : String → State → State → Prop}
    {pc : Nat} {own E : String} {ce : Cell} {q : Addr} {mc ms : Nat} (hown : s.vm.findClass own = some m.cls) (hlocks : meth.locks = false)
    (hpass : ∀ z ∈ c.exceptionTable.toList, covers z pc = false ∨ (z.catchType ≠ 0 ∧ ∃ nm : String, (Cond.classLink own z.catchType nm).before args s = true ∧ va_Nc E nm s)) (hcell : H[q]? = some ce) (hv : ce.vm = .none) (hcl : s.vm.findClass E = some ce.cls)
    (hx : ∀ t : State, t.heap = H → s.vm.Alike t.vm → XC E s t) (hf : ∀ z ∈ locs, free z.base) (hc : cells ≤ mc) (hs : slots ≤ ms) :
    vx_W p l e R s m args below meth c H locs cells slots (vx_MQ below Qc XC args s mc ms free) (F0 m pc ls rest) q := by
  intro T hT X
  have hpl : e.platform.magicAccessors = ({} : Platform).magicAccessors := by rw [X.admits.platform]
  obtain ⟨vm', hW', X', st⟩ := X.outThrough hlocks q (g := F0 m pc ls rest) rfl rfl rfl (cell := ce) (by rw [hT]; exact hcell) (by rw [hv]; rfl)
    (by obtain ⟨k9, h9, -⟩ := Vm.findClass_spec hcl; exact ⟨k9, h9⟩) (fun z hz => by
      rcases hpass z hz with h | ⟨hz0, nm, hl1, hn1⟩
      · exact Or.inl h
      · obtain ⟨c6, hc6, hcl6⟩ := Cond.classLink_spec hown hl1 e.platform hpl
        obtain ⟨a8, b8, h1, h2, h3⟩ := hn1
        cases Option.some.inj (h1.symm.trans hcl)
        cases Option.some.inj (h2.symm.trans hc6)
        exact Or.inr ⟨hz0, _, hcl6, h3⟩)
  obtain ⟨g₀, hfr⟩ := X'.frames_eq
  have hcell9 : ((T.setVm vm').setFrames (.throwing q :: below)).heap[q]? = some ce := by
    show T.heap[q]? = some ce
    rw [hT]; exact hcell
  have hend : Ended ((T.setVm vm').setFrames (.throwing q :: below)) below (.threw q) := State.frames_setFrames _ (State.cur_lt_of_frames hfr)
  refine ⟨(T.setVm vm').setFrames (.throwing q :: below), ?_, .threw q, X'.here.running, hend, Or.inr ⟨q, rfl, E, ce, locs, hx _ hT (X'.ends _).1.alike, hcell9, hv, hcl, (X'.ends _).1, (X'.ends _).2.mono hc hs, hf⟩⟩
  rw [X.pushThrowing_eq]
  exact st
/-- a thing of a world lies in the heap -/
theorem vx_lt {D : va_G} {cl : List vw_C} {ws : va_W} {H1 : Heap} (h : va_P D cl ws H1) {k : Nat} {q : Nat × va_E} (hk : ws[k]? = some q) : q.1 < H1.size := (h k q hk).lt
end VXS
/-! ===== END ===== -/
/-! ===== BEGIN methods with a table of their own: called by a name, returning or throwing ===== -/
section VXH
/-! vx_backW, vx_callVX, vx_callSX, vx_callVW, vx_runVW, vx_runVX, vx_runSX, vx_ofWH follow the same proofs as their sisters above (Free/Laws.lean, Shelf42/LK1.lean); vx_outP calls Shelf42/NT130.lean (outThrough). -/
section
variable {l : Launch} {R : Room} {p : Program} {e : Env} {below : List Frame} {s : State} {sargs : Array Value} {y : MethodName} {len W9 : Nat}
theorem vx_backW {ws : List Cond} {rm : Room} {Pc : Array Value → State → Prop} {Qc : Array Value → State → Outcome → State → Prop} {XC : String → State → State → Prop} {mc ms : Nat} {free : Addr → Prop} {bytes : ByteArray} {maxL : Nat} {ret : Option FieldType} {hh : List (Nat × Nat × Nat × Nat)}
    (hM : vx_Met l y ws rm Pc Qc XC mc ms free) (hblind : FrameBlind Pc) (hrc : rm.cells = mc) (hrs : rm.slots = ms)
    (hframes : rm.frames + 1 ≤ R.frames) (hlocals : W9 + (maxL + 11) + rm.locals ≤ R.locals)
    (hws : ∀ w ∈ ws, ∀ a' U, s.WarmedH U.vm → w.before a' U = true) (hcode : Cond.codeWith y bytes maxL ret hh ∈ ws) (hinit : ∀ a' U, s.WarmedH U.vm → (Cond.initialized y.cls).before a' U = true) :
    vx_Back l R p e below s sargs y len W9 (PreOf R mc ms Pc) (PostOf Qc mc ms free) (vx_Post XC mc ms free) := by
  intro m meth c A g ig mk a X hg hsize hdg hW hn hp
  have h1 : (headSpec ws rm).pre.before a A.U = true := atoms_intro fun w hw => hws w hw _ _ X.warmed
  have h2 : (Cond.codeWith y bytes maxL ret hh).before a A.U = true := hws _ hcode _ _ X.warmed
  have h3 : (Cond.initialized y.cls).before a A.U = true := hinit _ _ X.warmed
  have h4 : A.cells + (headSpec ws rm).room.cells ≤ R.cells := by rw [show (headSpec ws rm).room.cells = mc from hrc]; exact hp.1
  have h5 : A.slots + (headSpec ws rm).room.slots ≤ R.slots := by rw [show (headSpec ws rm).room.slots = ms from hrs]; exact hp.2.1
  have hPc : Pc a (A.U.calling g mk a) := hblind _ _ _ _ hp.2.2
  obtain ⟨U, Ls, c0, s0⟩ := A
  dsimp only [Pt.U, Pt.locs, Pt.cells, Pt.slots] at h1 h2 h3 h4 h5 X hn hPc ⊢
  obtain ⟨m9, methY, cY, hn9, hmY, hcY, -, hlY, -⟩ := Cond.codeWith_spec h2
  cases Option.some.inj (hn9.symm.trans hn)
  obtain ⟨kY, hkY, -⟩ := className_of_methodNamed hn
  have hinitY : kY.init = .initialized := Cond.initialized_spec (findClass_of_methodNamed hn) hkY h3
  have h : At U g.method c below := by rw [hg]; exact X.here
  have hlocals9 : W9 + (maxL + 11) + (headSpec ws rm).room.locals ≤ R.locals := hlocals
  have happ : (headSpec ws rm).appliesLoose y e.platform (U.calling g mk a) = true :=
    Spec.appliesLoose_calling (g := g) h hdg hn hkY hinitY
      (X.room_calling (g := g) (R' := (headSpec ws rm).room) hsize hmY hcY hframes (by rw [hlY]; omega) h4 h5) h1
  obtain ⟨mid, hmid⟩ := h.above
  have hfr : (U.setTop g).frames = (.java g :: mid) ++ below := by rw [State.frames_setTop' g h.top, hmid]; rfl
  obtain ⟨o, s₂, hsteps, -, hend, hq⟩ := Steps.callFree hM p X.admits X.cas X.clock (acts := []) hfr happ hPc trivial
  have hq' : vx_Q Qc XC mc ms free a (U.calling g mk a) o s₂ := hq
  rw [State.frames_setTop' g h.top] at hend
  obtain ⟨g₀, hg0⟩ := Option.isSome_iff_exists.mp h.top
  obtain ⟨r, hr⟩ := State.topJava?_eq_some.mp hg0
  have hr' : (({ U with heap := s₂.heap, slotsUsed := s₂.slotsUsed } : State).setVm s₂.vm).frames = .java g₀ :: r := hr
  rcases hq' with ⟨hqc, L, hfe, hL⟩ | ⟨q, rfl, E, ce, L, hx, hce, hcv, hcl, hW₂, hsm, hL⟩
  · obtain ⟨⟨v, rfl⟩, hW₂, e2, q2, q3, q4, q5, q6⟩ := id hfe
    have e3 : s₂ = ({ (U.calling g mk a).setFrames s₂.frames with heap := s₂.heap, slotsUsed := s₂.slotsUsed } : State).setVm s₂.vm := by
      have : s₂ = ({ s₂ with vm := (U.calling g mk a).vm } : State).setVm s₂.vm := rfl
      rw [e2] at this
      exact this
    obtain ⟨c₂, i₂, len₂, hc₂, hd₂, hf₂⟩ := hend
    have hW' : U.WarmedH s₂.vm := hW₂
    have hcc : c₂ = c := by
      have h1 : s₂.code? g.method = U.code? g.method := by
        rw [State.code?_eq, State.code?_eq, hW'.alike.method?]
      exact Option.some.inj (hc₂.symm.trans (h1.trans h.code))
    subst hcc
    have hlen : len₂ = len := by rw [hdg] at hd₂; cases hd₂; rfl
    subst hlen
    have hs₂ : s₂ = (({ U with heap := s₂.heap, slotsUsed := s₂.slotsUsed } : State).setVm s₂.vm).setTop { g with pc := g.pc + len₂, stack := v.toList ++ g.stack } := by
      refine e3.trans ?_
      rw [hf₂, State.calling_eq h.top, State.setFrames_setFrames, State.setTop_of_frames _ hr', hr]
      rfl
    have hsame : U.sameButNew ({ U with heap := s₂.heap, slotsUsed := s₂.slotsUsed } : State) L mc ms := by
      refine ⟨?_, q2, q3, q4, q5, q6⟩
      obtain ⟨t, ht, -⟩ := State.frames_cons hr
      show ({ U with heap := s₂.heap, slotsUsed := s₂.slotsUsed } : State) = { U.setFrames U.frames with heap := s₂.heap, slotsUsed := s₂.slotsUsed }
      rw [State.setFrames_self ht]
    subst hg
    refine Or.inl ⟨v, ⟨(({ U with heap := s₂.heap, slotsUsed := s₂.slotsUsed } : State).setVm s₂.vm), Ls ++ L, c0 + mc, s0 + ms⟩,
      ⟨X.admits, X.cas, X.clock, X.frames, X.room, X.hears, X.method, X.code, (X.here.setHeapUsed s₂.heap s₂.slotsUsed).setVm hW'.alike, X.tail, State.WarmedH.trans X.warmed hW', X.limits, X.bytes, X.same.trans (hsame.setVm s.vm)⟩,
      ⟨g, mk, s₂, L, rfl, rfl, hqc, rfl, hL, rfl, rfl⟩, ?_⟩
    show Steps p.tables e below _ ((({ U with heap := s₂.heap, slotsUsed := s₂.slotsUsed } : State).setVm s₂.vm).setTop { g with pc := g.pc + len₂, stack := v.toList ++ g.stack })
    rw [← hs₂]
    exact hsteps
  · obtain ⟨e2, q2, q3, q4, q5, q6⟩ := id hsm
    have e3 : s₂ = ({ (U.calling g mk a).setFrames s₂.frames with heap := s₂.heap, slotsUsed := s₂.slotsUsed } : State).setVm s₂.vm := by
      have : s₂ = ({ s₂ with vm := (U.calling g mk a).vm } : State).setVm s₂.vm := rfl
      rw [e2] at this
      exact this
    have hf₂ : s₂.frames = .throwing q :: .java g :: U.frames.tail := hend
    have hW' : U.WarmedH s₂.vm := hW₂
    have hs₂ : s₂ = ((({ U with heap := s₂.heap, slotsUsed := s₂.slotsUsed } : State).setVm s₂.vm).setTop g).pushFrame (.throwing q) := by
      refine e3.trans ?_
      rw [hf₂, State.calling_eq h.top, State.setFrames_setFrames, State.pushFrame, State.frames_setTop _ hr', State.setTop_of_frames _ hr', State.setFrames_setFrames, hr]
      rfl
    have hsame : U.sameButNew ({ U with heap := s₂.heap, slotsUsed := s₂.slotsUsed } : State) L mc ms := by
      refine ⟨?_, q2, q3, q4, q5, q6⟩
      obtain ⟨t, ht, -⟩ := State.frames_cons hr
      show ({ U with heap := s₂.heap, slotsUsed := s₂.slotsUsed } : State) = { U.setFrames U.frames with heap := s₂.heap, slotsUsed := s₂.slotsUsed }
      rw [State.setFrames_self ht]
    subst hg
    refine Or.inr ⟨q, ⟨(({ U with heap := s₂.heap, slotsUsed := s₂.slotsUsed } : State).setVm s₂.vm), Ls ++ L, c0 + mc, s0 + ms⟩,
      ⟨X.admits, X.cas, X.clock, X.frames, X.room, X.hears, X.method, X.code, (X.here.setHeapUsed s₂.heap s₂.slotsUsed).setVm hW'.alike, X.tail, State.WarmedH.trans X.warmed hW', X.limits, X.bytes, X.same.trans (hsame.setVm s.vm)⟩,
      ⟨g, mk, s₂, L, E, ce, rfl, rfl, hx, hce, hcv, hcl, rfl, hL, rfl, rfl⟩, ?_⟩
    show Steps p.tables e below _ (((({ U with heap := s₂.heap, slotsUsed := s₂.slotsUsed } : State).setVm s₂.vm).setTop g).pushFrame (.throwing q))
    rw [← hs₂]
    exact hsteps
end
variable {p : Program} {l : Launch} {e : Env} {R : Room} {s : State} {m : MethodId} {args : Array Value} {below : List Frame} {meth : Method} {c : Code} {T : State} {H : Heap} {locs : List Loc} {cells slots : Nat}
theorem vx_callVX (X : Stand p l e R s m args below meth c T locs cells slots) (hexec : p.tables.exec = Jvm.exec) {own C : String} {index : Nat} {y : MethodName} {bytes : ByteArray} {maxL : Nat} {ret : Option FieldType} {hh : List (Nat × Nat × Nat × Nat)}
    (hown : s.vm.findClass own = some m.cls) (hlink : (Cond.methodLink own index y).before args s = true) (hinst : (Cond.instanceMethod y).before args s = true) (hsel : (Cond.selects C y y).before args s = true)
    (hcode : (Cond.codeWith y bytes maxL ret hh).before args s = true) (hy : y.cls ≠ "java/lang/invoke/MethodHandle" ∧ y.cls ≠ "java/lang/invoke/VarHandle")
    {W9 : Nat} {Pre : Pt → Array Value → Prop} {Post : Pt → Array Value → Option Value → Pt → Prop} {PostX : Pt → Array Value → Addr → Pt → Prop} (hK : vx_Back l R p e below s args y 3 W9 Pre Post PostX)
    {b : Addr} {cellB : Cell} (hcell : T.heap[b]? = some cellB) (hobj : cellB.vm.isStatics = false) (hcls : s.vm.findClass C = some cellB.cls)
    {g : JFrame} (hg : g.method = m) (hsize : g.locals.size = c.maxLocals) {argsL rest : List Value} (hlen : ∀ sig, parseMethodDescriptor y.desc = some sig → argsL.length = sig.parameters.length)
    (hstack : g.stack = argsL.reverse ++ .ref b :: rest) (hW : 2 * g.monitorRoom + (rest.map fun v => v.category).sum ≤ W9) (hdg : decode c.code g.pc = .ok (.invokevirtual index, 3))
    (hpre : ∀ vm₁, s.WarmedH vm₁ → Pre ⟨T.setVm vm₁, locs, cells, slots⟩ (Value.ref b :: argsL).toArray) :
    (∃ (v : Option Value) (vm₁ : Vm) (B : Pt), s.WarmedH vm₁ ∧ Stand p l e R s m args below meth c B.U B.locs B.cells B.slots ∧ Post ⟨T.setVm vm₁, locs, cells, slots⟩ (Value.ref b :: argsL).toArray v B ∧
      ∀ target, Steps p.tables e below (B.U.setTop { g with pc := g.pc + 3, stack := v.toList ++ rest }) target → Steps p.tables e below (T.setTop g) target) ∨
    (∃ (q : Addr) (vm₁ : Vm) (B : Pt), s.WarmedH vm₁ ∧ Stand p l e R s m args below meth c B.U B.locs B.cells B.slots ∧ PostX ⟨T.setVm vm₁, locs, cells, slots⟩ (Value.ref b :: argsL).toArray q B ∧
      Steps p.tables e below (T.setTop g) ((B.U.setTop { g with stack := rest }).pushFrame (.throwing q))) := by
  obtain ⟨mk, methM, hnamed, hmethM, hstM, habM⟩ := Cond.instanceMethod_spec hinst
  obtain ⟨m8, methM', cM, hn8, hmethM', -, -, -, -, -, -, hsigM⟩ := Cond.codeWith_spec hcode
  cases Option.some.inj (hn8.symm.trans hnamed)
  cases hmethM.symm.trans hmethM'
  obtain ⟨c2, r2, m2, q1, q2, q3, q4, kP, hkP, hkPi⟩ := Cond.selects_spec hsel
  cases hcls.symm.trans q1
  cases (State.methodFound?_of_named hnamed hy).symm.trans q2
  cases hnamed.symm.trans q3
  have hselP : selectMethod e.platform s.vm cellB.cls mk = .method mk := by rw [Launch.admits_selectMethod X.admits]; exact q4
  obtain ⟨vm₁, X₁, hstep₁⟩ := X.invokevirtual hexec hown hlink hnamed hmethM hstM hkP hkPi hy (a := b) (cell := cellB) hcell
    (fun z h => by rw [h] at hobj; cases hobj) hselP hmethM habM hkP hkPi (g := g) hg (argsL := argsL) (rest := rest) (hlen _ hsigM) hstack hdg
  rcases hK m meth c ⟨T.setVm vm₁, locs, cells, slots⟩ { g with stack := rest } (.invokevirtual index) mk (Value.ref b :: argsL).toArray X₁ hg hsize hdg hW (X₁.named hnamed) (hpre vm₁ X₁.warmed) with ⟨v, B, X', hpost, hsteps⟩ | ⟨q, B, X', hpost, hsteps⟩
  · exact Or.inl ⟨v, vm₁, B, X₁.warmed, X', hpost, fun target h => hstep₁ _ fun acts => by rw [doInvoke_state]; exact hsteps.trans h⟩
  · exact Or.inr ⟨q, vm₁, B, X₁.warmed, X', hpost, hstep₁ _ fun acts => by rw [doInvoke_state]; exact hsteps⟩
theorem vx_callSX (X : Stand p l e R s m args below meth c T locs cells slots) (hexec : p.tables.exec = Jvm.exec) {own : String} {index : Nat} {y : MethodName} {bytes : ByteArray} {maxL : Nat} {ret : Option FieldType} {hh : List (Nat × Nat × Nat × Nat)}
    (hown : s.vm.findClass own = some m.cls) (hlink : (Cond.methodLink own index y).before args s = true) (hstat : (Cond.static y).before args s = true) (hinit : (Cond.initialized y.cls).before args s = true)
    (hcode : (Cond.codeWith y bytes maxL ret hh).before args s = true) (hy : y.cls ≠ "java/lang/invoke/MethodHandle" ∧ y.cls ≠ "java/lang/invoke/VarHandle")
    {W9 : Nat} {Pre : Pt → Array Value → Prop} {Post : Pt → Array Value → Option Value → Pt → Prop} {PostX : Pt → Array Value → Addr → Pt → Prop} (hK : vx_Back l R p e below s args y 3 W9 Pre Post PostX)
    {g : JFrame} (hg : g.method = m) (hsize : g.locals.size = c.maxLocals) {argsL rest : List Value} (hlen : ∀ sig, parseMethodDescriptor y.desc = some sig → argsL.length = sig.parameters.length)
    (hstack : g.stack = argsL.reverse ++ rest) (hW : 2 * g.monitorRoom + (rest.map fun v => v.category).sum ≤ W9) (hdg : decode c.code g.pc = .ok (.invokestatic index, 3))
    (hpre : ∀ vm₁, s.WarmedH vm₁ → Pre ⟨T.setVm vm₁, locs, cells, slots⟩ argsL.toArray) :
    (∃ (v : Option Value) (vm₁ : Vm) (B : Pt), s.WarmedH vm₁ ∧ Stand p l e R s m args below meth c B.U B.locs B.cells B.slots ∧ Post ⟨T.setVm vm₁, locs, cells, slots⟩ argsL.toArray v B ∧
      ∀ target, Steps p.tables e below (B.U.setTop { g with pc := g.pc + 3, stack := v.toList ++ rest }) target → Steps p.tables e below (T.setTop g) target) ∨
    (∃ (q : Addr) (vm₁ : Vm) (B : Pt), s.WarmedH vm₁ ∧ Stand p l e R s m args below meth c B.U B.locs B.cells B.slots ∧ PostX ⟨T.setVm vm₁, locs, cells, slots⟩ argsL.toArray q B ∧
      Steps p.tables e below (T.setTop g) ((B.U.setTop { g with stack := rest }).pushFrame (.throwing q))) := by
  obtain ⟨mk, methM, cM, hnamed, hmethM, -, -, -, -, -, -, hsigM⟩ := Cond.codeWith_spec hcode
  have hstatic : methM.isStatic = true := Cond.static_spec hnamed hmethM hstat
  obtain ⟨kP, hkP, -⟩ := className_of_methodNamed hnamed
  have hinitP : kP.init = .initialized := Cond.initialized_spec (findClass_of_methodNamed hnamed) hkP hinit
  obtain ⟨vm₁, X₁, hstep₁⟩ := X.invokestatic hexec hown hlink hnamed hmethM hstatic hkP hinitP hy (g := g) hg (argsL := argsL) (rest := rest) (hlen _ hsigM) hstack hdg
  rcases hK m meth c ⟨T.setVm vm₁, locs, cells, slots⟩ { g with stack := rest } (.invokestatic index) mk argsL.toArray X₁ hg hsize hdg hW (X₁.named hnamed) (hpre vm₁ X₁.warmed) with ⟨v, B, X', hpost, hsteps⟩ | ⟨q, B, X', hpost, hsteps⟩
  · exact Or.inl ⟨v, vm₁, B, X₁.warmed, X', hpost, fun target h => hstep₁ _ fun acts => by rw [doInvoke_state]; exact hsteps.trans h⟩
  · exact Or.inr ⟨q, vm₁, B, X₁.warmed, X', hpost, hstep₁ _ fun acts => by rw [doInvoke_state]; exact hsteps⟩
theorem vx_callVW (X : Stand p l e R s m args below meth c T locs cells slots) (hexec : p.tables.exec = Jvm.exec) {own C : String} {index : Nat} {y : MethodName} {bytes : ByteArray} {maxL : Nat} {ret : Option FieldType} {hh : List (Nat × Nat × Nat × Nat)}
    (hown : s.vm.findClass own = some m.cls) (hlink : (Cond.methodLink own index y).before args s = true) (hinst : (Cond.instanceMethod y).before args s = true) (hsel : (Cond.selects C y y).before args s = true)
    (hcode : (Cond.codeWith y bytes maxL ret hh).before args s = true) (hy : y.cls ≠ "java/lang/invoke/MethodHandle" ∧ y.cls ≠ "java/lang/invoke/VarHandle")
    {W9 : Nat} {Pre : Pt → Array Value → Prop} {Post : Pt → Array Value → Option Value → Pt → Prop} (hK : Back l R p e below s args y 3 W9 Pre Post)
    {b : Addr} {cellB : Cell} (hcell : T.heap[b]? = some cellB) (hobj : cellB.vm.isStatics = false) (hcls : s.vm.findClass C = some cellB.cls)
    {g : JFrame} (hg : g.method = m) (hsize : g.locals.size = c.maxLocals) {argsL rest : List Value} (hlen : ∀ sig, parseMethodDescriptor y.desc = some sig → argsL.length = sig.parameters.length)
    (hstack : g.stack = argsL.reverse ++ .ref b :: rest) (hW : 2 * g.monitorRoom + (rest.map fun v => v.category).sum ≤ W9) (hdg : decode c.code g.pc = .ok (.invokevirtual index, 3))
    (hpre : ∀ vm₁, s.WarmedH vm₁ → Pre ⟨T.setVm vm₁, locs, cells, slots⟩ (Value.ref b :: argsL).toArray) :
    ∃ (v : Option Value) (vm₁ : Vm) (B : Pt), s.WarmedH vm₁ ∧ Stand p l e R s m args below meth c B.U B.locs B.cells B.slots ∧ Post ⟨T.setVm vm₁, locs, cells, slots⟩ (Value.ref b :: argsL).toArray v B ∧
      ∀ target, Steps p.tables e below (B.U.setTop { g with pc := g.pc + 3, stack := v.toList ++ rest }) target → Steps p.tables e below (T.setTop g) target := by
  obtain ⟨mk, methM, hnamed, hmethM, hstM, habM⟩ := Cond.instanceMethod_spec hinst
  obtain ⟨m8, methM', cM, hn8, hmethM', -, -, -, -, -, -, hsigM⟩ := Cond.codeWith_spec hcode
  cases Option.some.inj (hn8.symm.trans hnamed)
  cases hmethM.symm.trans hmethM'
  obtain ⟨c2, r2, m2, q1, q2, q3, q4, kP, hkP, hkPi⟩ := Cond.selects_spec hsel
  cases hcls.symm.trans q1
  cases (State.methodFound?_of_named hnamed hy).symm.trans q2
  cases hnamed.symm.trans q3
  have hselP : selectMethod e.platform s.vm cellB.cls mk = .method mk := by rw [Launch.admits_selectMethod X.admits]; exact q4
  obtain ⟨vm₁, X₁, hstep₁⟩ := X.invokevirtual hexec hown hlink hnamed hmethM hstM hkP hkPi hy (a := b) (cell := cellB) hcell
    (fun z h => by rw [h] at hobj; cases hobj) hselP hmethM habM hkP hkPi (g := g) hg (argsL := argsL) (rest := rest) (hlen _ hsigM) hstack hdg
  obtain ⟨v, B, X', hpost, hsteps⟩ := hK m meth c ⟨T.setVm vm₁, locs, cells, slots⟩ { g with stack := rest } (.invokevirtual index) mk (Value.ref b :: argsL).toArray X₁ hg hsize hdg hW (X₁.named hnamed) (hpre vm₁ X₁.warmed)
  exact ⟨v, vm₁, B, X₁.warmed, X', hpost, fun target h => hstep₁ _ fun acts => by rw [doInvoke_state]; exact hsteps.trans h⟩
abbrev vx_CVW (R : Room) (s : State) (args : Array Value) (own C : String) (index : Nat) (y : MethodName) (bytes : ByteArray) (maxL : Nat) (ret : Option FieldType) (hh : List (Nat × Nat × Nat × Nat)) (ws : List Cond) (rm : Room) (mc ms n : Nat) : Prop :=
  (rm.cells = mc ∧ rm.slots = ms ∧ rm.frames + 1 ≤ R.frames ∧ 8 + (maxL + 11) + rm.locals ≤ R.locals ∧ (∀ w ∈ ws, ∀ (a' : Array Value) (U : State), s.WarmedH U.vm → w.before a' U = true) ∧ Cond.codeWith y bytes maxL ret hh ∈ ws) ∧
  (Cond.codeWith y bytes maxL ret hh).before args s = true ∧ (Cond.initialized y.cls).before args s = true ∧ (y.cls ≠ "java/lang/invoke/MethodHandle" ∧ y.cls ≠ "java/lang/invoke/VarHandle") ∧
  (∀ sig, parseMethodDescriptor y.desc = some sig → n = sig.parameters.length) ∧ (Cond.methodLink own index y).before args s = true ∧ (Cond.instanceMethod y).before args s = true ∧ (Cond.selects C y y).before args s = true
theorem vx_cwVW {own C : String} {index maxL mc ms : Nat} {y : MethodName} {bytes : ByteArray} {ret : Option FieldType} {hh : List (Nat × Nat × Nat × Nat)} {Ts ws ws' : List Cond} {rm : Room} (n : Nat) (ht : ∀ w ∈ Ts, w.before args s = true) (hT : GoodIn Ts (wsV own index C y ws)) (hw : ws = Cond.codeWith y bytes maxL ret hh :: ws') (hrc : rm.cells = mc) (hrs : rm.slots = ms)
    (hd : y.cls = C ∧ y.cls ≠ "java/lang/invoke/MethodHandle" ∧ y.cls ≠ "java/lang/invoke/VarHandle" ∧ (parseMethodDescriptor y.desc).map (fun d => d.parameters.length) = some n) (hR : rm.frames + 1 ≤ R.frames ∧ 8 + (maxL + 11) + rm.locals ≤ R.locals) :
    vx_CVW R s args own C index y bytes maxL ret hh ws rm mc ms n := by
  obtain ⟨hC, hd⟩ := hd
  subst hC
  have ok : ∀ w ∈ wsV own index y.cls y ws, w.before args s = true := fun w h => ht w (hT w h).1
  have hG : GoodIn Ts ws := fun w h => hT w (by unfold wsV; exact List.mem_append_right _ h)
  have hc : Cond.codeWith y bytes maxL ret hh ∈ ws := by rw [hw]; exact List.mem_cons_self
  refine ⟨⟨hrc, hrs, hR.1, hR.2, pay_in ht hG, hc⟩, ht _ (hG _ hc).1, ok _ (by simp [wsV]), ⟨hd.1, hd.2.1⟩, fun sig h => ?_, ok _ (by simp [wsV]), ok _ (by simp [wsV]), ok _ (by simp [wsV])⟩
  have h2 := hd.2.2
  rw [h] at h2
  exact (Option.some.inj h2).symm
theorem vx_runVW {y : MethodName} {bytes cc : ByteArray} {maxL nL mc ms n index : Nat} {ret : Option FieldType} {hh : List (Nat × Nat × Nat × Nat)} {ws : List Cond} {rm : Room} {Pc : Array Value → State → Prop} {Qc : Array Value → State → Outcome → State → Prop} {free : Addr → Prop} {Ts : List Cond} {own C : String} {b : Addr} {As rest : List Value} {g : JFrame}
    (S : CallFix p m c cc nL s args Ts own) (hM : Met l y ws rm Pc Qc mc ms free) (cw : vx_CVW R s args own C index y bytes maxL ret hh ws rm mc ms n) (hp : PreV s H C b Pc As)
    (hg : g.method = m) (hn : As.length = n) (hsize : g.locals.size = nL) (hstack : g.stack = As.reverse ++ .ref b :: rest) (hW : 2 * g.monitorRoom + (rest.map fun v => v.category).sum ≤ 8) (hdg : decode cc g.pc = .ok (.invokevirtual index, 3)) (hf : cells + mc ≤ R.cells ∧ slots + ms ≤ R.slots) :
    va_Run p l e R s m args below meth c H locs cells slots mc ms g rest (Qc (Value.ref b :: As).toArray) free := by
  obtain ⟨⟨hrc, hrs, hfr, hlo, hws, hcw⟩, hcode, hini, hy, hlen, hl, hin, hse⟩ := cw
  have hK : Back l R p e below s args y 3 8 (PreOf R mc ms Pc) (PostOf Qc mc ms free) := va_backW (hh := hh) (bytes := bytes) (maxL := maxL) (ret := ret) hM hp.1 hrc hrs hfr hlo hws hcw (fun a' U hW => word_at hW (Or.inl (by first | rfl | simp [Cond.onTables, Cond.keeps, Cond.steady])) hini)
  obtain ⟨hx, hb, hml, ho, -⟩ := S
  obtain ⟨-, ⟨cellB, hcB, hoB, hclB⟩, hPc⟩ := hp
  intro T hT X
  obtain ⟨v, vm₁, ⟨U', l2, c2, s2⟩, hW₁, X', ⟨g', mk, t, L, e1, e2, hq, h1, hL, h2, h3⟩, st⟩ := vx_callVW X hx (C := C) (hh := hh) (bytes := bytes) (maxL := maxL) (ret := ret) ho hl hin hse hcode hy hK (by rw [hT]; exact hcB) hoB hclB hg (hsize.trans hml.symm) (argsL := As) (rest := rest) (fun sig h => hn.trans (hlen sig h)) hstack hW (by rw [hb]; exact hdg)
    (fun vm₁ hW₁ => ⟨hf.1, hf.2, hPc (T.setVm vm₁) hT hW₁⟩)
  dsimp only [Pt.U, Pt.locs, Pt.cells, Pt.slots] at X' e1 e2 h1 h2 h3 st
  subst h1; subst h2; subst h3
  exact ⟨v, (T.setVm vm₁).calling g' mk (Value.ref b :: As).toArray, t, U', L, hT, X', hL, e1, e2, hq, st⟩
section
variable {y : MethodName} {bytes cc : ByteArray} {maxL nL mc ms n index : Nat} {ret : Option FieldType} {ws : List Cond} {rm : Room} {Pc : Array Value → State → Prop} {Qc : Array Value → State → Outcome → State → Prop} {XC : String → State → State → Prop} {free : Addr → Prop} {Ts : List Cond} {own C : String} {b : Addr} {As rest : List Value} {g : JFrame}
theorem vx_runVX {hh : List (Nat × Nat × Nat × Nat)} (S : CallFix p m c cc nL s args Ts own) (hM : vx_Met l y ws rm Pc Qc XC mc ms free) (cw : vx_CVW R s args own C index y bytes maxL ret hh ws rm mc ms n) (hp : PreV s H C b Pc As)
    (hg : g.method = m) (hn : As.length = n) (hsize : g.locals.size = nL) (hstack : g.stack = As.reverse ++ .ref b :: rest) (hW : 2 * g.monitorRoom + (rest.map fun v => v.category).sum ≤ 8) (hdg : decode cc g.pc = .ok (.invokevirtual index, 3)) (hf : cells + mc ≤ R.cells ∧ slots + ms ≤ R.slots) :
    vx_Run p l e R s m args below meth c H locs cells slots mc ms g rest (Qc (Value.ref b :: As).toArray) XC free := by
  obtain ⟨⟨hrc, hrs, hfr, hlo, hws, hcw⟩, hcode, hini, hy, hlen, hl, hin, hse⟩ := cw
  have hK : vx_Back l R p e below s args y 3 8 (PreOf R mc ms Pc) (PostOf Qc mc ms free) (vx_Post XC mc ms free) := vx_backW (hh := hh) (bytes := bytes) (maxL := maxL) (ret := ret) hM hp.1 hrc hrs hfr hlo hws hcw (fun a' U hW => word_at hW (Or.inl (by first | rfl | simp [Cond.onTables, Cond.keeps, Cond.steady])) hini)
  obtain ⟨hx, hb, hml, ho, -⟩ := S
  obtain ⟨-, ⟨cellB, hcB, hoB, hclB⟩, hPc⟩ := hp
  intro T hT X
  rcases vx_callVX X hx (C := C) (hh := hh) (bytes := bytes) (maxL := maxL) (ret := ret) ho hl hin hse hcode hy hK (by rw [hT]; exact hcB) hoB hclB hg (hsize.trans hml.symm) (argsL := As) (rest := rest) (fun sig h => hn.trans (hlen sig h)) hstack hW (by rw [hb]; exact hdg)
    (fun vm₁ hW₁ => ⟨hf.1, hf.2, hPc (T.setVm vm₁) hT hW₁⟩) with ⟨v, vm₁, ⟨U', l2, c2, s2⟩, hW₁, X', ⟨g', mk, t, L, e1, e2, hq, h1, hL, h2, h3⟩, st⟩ | ⟨q, vm₁, ⟨U', l2, c2, s2⟩, hW₁, X', ⟨g', mk, t, L, E, ce, e1, e2, hq, hce, hcv, hcl, h1, hL, h2, h3⟩, st⟩
  · dsimp only [Pt.U, Pt.locs, Pt.cells, Pt.slots] at X' e1 e2 h1 h2 h3 st
    subst h1; subst h2; subst h3
    exact Or.inl ⟨v, (T.setVm vm₁).calling g' mk (Value.ref b :: As).toArray, t, U', L, hT, X', hL, e1, e2, hq, st⟩
  · dsimp only [Pt.U, Pt.locs, Pt.cells, Pt.slots] at X' e1 e2 h1 h2 h3 st hcl
    subst h1; subst h2; subst h3
    exact Or.inr ⟨q, (T.setVm vm₁).calling g' mk (Value.ref b :: As).toArray, t, U', L, E, ce, hT, X', hL, e1, e2, hq, hce, hcv, vx_cls hW₁ hcl, st⟩
theorem vx_runSX {hh : List (Nat × Nat × Nat × Nat)} (S : CallFix p m c cc nL s args Ts own) (hM : vx_Met l y ws rm Pc Qc XC mc ms free) (cw : vx_CSW R s args own index y bytes maxL ret hh ws rm mc ms n) (hp : PreS s H Pc As)
    (hg : g.method = m) (hn : As.length = n) (hsize : g.locals.size = nL) (hstack : g.stack = As.reverse ++ rest) (hW : 2 * g.monitorRoom + (rest.map fun v => v.category).sum ≤ 8) (hdg : decode cc g.pc = .ok (.invokestatic index, 3)) (hf : cells + mc ≤ R.cells ∧ slots + ms ≤ R.slots) :
    vx_Run p l e R s m args below meth c H locs cells slots mc ms g rest (Qc As.toArray) XC free := by
  obtain ⟨⟨hrc, hrs, hfr, hlo, hws, hcw⟩, hcode, hini, hy, hlen, hl, hstt⟩ := cw
  have hK : vx_Back l R p e below s args y 3 8 (PreOf R mc ms Pc) (PostOf Qc mc ms free) (vx_Post XC mc ms free) := vx_backW (hh := hh) (bytes := bytes) (maxL := maxL) (ret := ret) hM hp.1 hrc hrs hfr hlo hws hcw (fun a' U hW => word_at hW (Or.inl (by first | rfl | simp [Cond.onTables, Cond.keeps, Cond.steady])) hini)
  obtain ⟨hx, hb, hml, ho, -⟩ := S
  intro T hT X
  rcases vx_callSX X hx (hh := hh) (bytes := bytes) (maxL := maxL) (ret := ret) ho hl hstt hini hcode hy hK hg (hsize.trans hml.symm) (argsL := As) (rest := rest) (fun sig h => hn.trans (hlen sig h)) hstack hW (by rw [hb]; exact hdg)
    (fun vm₁ hW₁ => ⟨hf.1, hf.2, hp.2 (T.setVm vm₁) hT hW₁⟩) with ⟨v, vm₁, ⟨U', l2, c2, s2⟩, hW₁, X', ⟨g', mk, t, L, e1, e2, hq, h1, hL, h2, h3⟩, st⟩ | ⟨q, vm₁, ⟨U', l2, c2, s2⟩, hW₁, X', ⟨g', mk, t, L, E, ce, e1, e2, hq, hce, hcv, hcl, h1, hL, h2, h3⟩, st⟩
  · dsimp only [Pt.U, Pt.locs, Pt.cells, Pt.slots] at X' e1 e2 h1 h2 h3 st
    subst h1; subst h2; subst h3
    exact Or.inl ⟨v, (T.setVm vm₁).calling g' mk As.toArray, t, U', L, hT, X', hL, e1, e2, hq, st⟩
  · dsimp only [Pt.U, Pt.locs, Pt.cells, Pt.slots] at X' e1 e2 h1 h2 h3 st hcl
    subst h1; subst h2; subst h3
    exact Or.inr ⟨q, (T.setVm vm₁).calling g' mk As.toArray, t, U', L, E, ce, hT, X', hL, e1, e2, hq, hce, hcv, vx_cls hW₁ hcl, st⟩
end
end VXH
theorem vx_ofWH {l : Launch} {y : MethodName} {ws ws' : List Cond} {rm : Room} {Pc : Array Value → State → Prop} {Qc : Array Value → State → Outcome → State → Prop} {XC : String → State → State → Prop} {mc ms : Nat} {free : Addr → Prop} {cc : ByteArray} {maxL : Nat} {ret : Option FieldType} {hh : List (Nat × Nat × Nat × Nat)}
    (hy : plainName y.cls = true) (hw : ws = Cond.codeWith y cc maxL ret hh :: ws')
    (body : ∀ p e s m args below meth c s₁, BodyLoose p l y (headSpec ws rm) cc maxL ret e s m args below meth c s₁ → c.maxLocals = maxL → Pc args s →
      W p l e (headSpec ws rm).room s m args below meth c s.heap [] 0 0 (vx_MQ below Qc XC args s mc ms free) (entryFrame m args maxL)) : vx_Met l y ws rm Pc Qc XC mc ms free := by
  refine MetFree.of_bodyS (code := cc) (maxLocals := maxL) (ret := ret) hy ?_ ?_
  · intro args s m h hn
    obtain ⟨m9, meth, c, hn9, h1, h2, h3, h4, -, h5, h6, -⟩ := Cond.codeWith_spec (atoms_spec (ws := ws) h _ (by rw [hw]; exact List.mem_cons_self))
    cases hn.symm.trans hn9
    exact ⟨meth, c, h1, h2, h3, h4, h5, h6⟩
  · intro p e s m args below meth c s₁ B hml hP _
    have hh0 : s₁.heap = s.heap := by rw [B.state]; rfl
    obtain ⟨t, a1, o, b1, b2, b3⟩ := body p e s m args below meth c s₁ B hml hP s₁ hh0 (Stand.of_body B)
    exact ⟨t, o, a1, b1, b2, b3⟩
/-! ===== END ===== -/

/-! ===== BEGIN printed: names, fields, word lists, decode rows ===== -/
def RX0 : String := "DefaultFund$Auction"
def TX0 : u_T := fun k => match k with
  | 0 => ("DefaultFund$Auction", "bids", "[[I", true)
  | _ => ("DefaultFund$Auction", "lots", "I", false)
def tyX0 : Nat → FieldType := fun k => match k with
  | 0 => .array (.array .int)
  | _ => .int
abbrev wsX00 : List Cond := u_ws RX0 TX0 2
theorem nmX0 : ∀ a, a < 2 → ∀ b, b < 2 → a ≠ b → (TX0 a).2.1 ≠ (TX0 b).2.1 := by decide +kernel
theorem tyX0_ok : ∀ k, k < 2 → parseFieldDescriptor (TX0 k).2.2.1 = some (tyX0 k) := by decide +kernel
abbrev cX0_init : ByteArray := prog_2_method_1_code
def yX0_init : MethodName := ⟨RX0, "<init>", "()V"⟩
abbrev cX0_open : ByteArray := prog_2_method_2_code
def yX0_open : MethodName := ⟨RX0, "open", "(I)V"⟩
abbrev cX0_hasLot : ByteArray := prog_2_method_3_code
def yX0_hasLot : MethodName := ⟨RX0, "hasLot", "(I)Z"⟩
abbrev cX0_bidOf : ByteArray := prog_2_method_4_code
def yX0_bidOf : MethodName := ⟨RX0, "bidOf", "(II)I"⟩
abbrev cX0_enter : ByteArray := prog_2_method_5_code
def yX0_enter : MethodName := ⟨RX0, "enter", "(III)V"⟩
abbrev cX0_winnerOf : ByteArray := prog_2_method_6_code
def yX0_winnerOf : MethodName := ⟨RX0, "winnerOf", "(I)I"⟩
abbrev cX0_bidPoorly : ByteArray := prog_2_method_7_code
def yX0_bidPoorly : MethodName := ⟨RX0, "bidPoorly", "(I)Z"⟩
abbrev cX0_isLow : ByteArray := prog_2_method_8_code
def yX0_isLow : MethodName := ⟨RX0, "isLow", "(II)Z"⟩
def RX1 : String := "DefaultFund$Member"
def TX1 : u_T := fun k => match k with
  | 0 => ("DefaultFund$Member", "clients", "[I", true)
  | 1 => ("DefaultFund$Member", "clientCount", "I", false)
  | 2 => ("DefaultFund$Member", "clientLots", "I", false)
  | 3 => ("DefaultFund$Member", "state", "I", false)
  | 4 => ("DefaultFund$Member", "margin", "I", false)
  | 5 => ("DefaultFund$Member", "share", "I", false)
  | 6 => ("DefaultFund$Member", "room", "I", false)
  | 7 => ("DefaultFund$Member", "gain", "I", false)
  | 8 => ("DefaultFund$Member", "tested", "I", false)
  | 9 => ("DefaultFund$Member", "junior", "Z", false)
  | 10 => ("DefaultFund$Member", "assessed", "I", false)
  | 11 => ("DefaultFund$Member", "won", "I", false)
  | _ => ("DefaultFund$Member", "shareAtFailure", "I", false)
def tyX1 : Nat → FieldType := fun k => match k with
  | 0 => .array .int
  | 1 => .int
  | 2 => .int
  | 3 => .int
  | 4 => .int
  | 5 => .int
  | 6 => .int
  | 7 => .int
  | 8 => .int
  | 9 => .boolean
  | 10 => .int
  | 11 => .int
  | _ => .int
abbrev wsX10 : List Cond := u_ws RX1 TX1 13
theorem nmX1 : ∀ a, a < 13 → ∀ b, b < 13 → a ≠ b → (TX1 a).2.1 ≠ (TX1 b).2.1 := by decide +kernel
theorem tyX1_ok : ∀ k, k < 13 → parseFieldDescriptor (TX1 k).2.2.1 = some (tyX1 k) := by decide +kernel
abbrev cX1_init : ByteArray := prog_3_method_1_code
def yX1_init : MethodName := ⟨RX1, "<init>", "()V"⟩
abbrev cX1_join : ByteArray := prog_3_method_2_code
def yX1_join : MethodName := ⟨RX1, "join", "(III)V"⟩
abbrev cX1_isActive : ByteArray := prog_3_method_3_code
def yX1_isActive : MethodName := ⟨RX1, "isActive", "()Z"⟩
abbrev cX1_freeRoom : ByteArray := prog_3_method_4_code
def yX1_freeRoom : MethodName := ⟨RX1, "freeRoom", "()I"⟩
abbrev cX1_takesClient : ByteArray := prog_3_method_5_code
def yX1_takesClient : MethodName := ⟨RX1, "takesClient", "(I)Z"⟩
abbrev cX1_dropClients : ByteArray := prog_3_method_6_code
def yX1_dropClients : MethodName := ⟨RX1, "dropClients", "()V"⟩
abbrev cX1_raiseShare : ByteArray := prog_3_method_7_code
def yX1_raiseShare : MethodName := ⟨RX1, "raiseShare", "(I)I"⟩
abbrev cX1_loseAll : ByteArray := prog_3_method_8_code
def yX1_loseAll : MethodName := ⟨RX1, "loseAll", "()V"⟩
def RX2 : String := "DefaultFund$Parting"
def TX2 : u_T := fun k => match k with
  | 0 => ("DefaultFund$Parting", "weights", "[I", true)
  | 1 => ("DefaultFund$Parting", "bounds", "[I", true)
  | _ => ("DefaultFund$Parting", "parts", "[I", true)
def tyX2 : Nat → FieldType := fun k => match k with
  | 0 => .array .int
  | 1 => .array .int
  | _ => .array .int
abbrev wsX20 : List Cond := u_ws RX2 TX2 3
theorem nmX2 : ∀ a, a < 3 → ∀ b, b < 3 → a ≠ b → (TX2 a).2.1 ≠ (TX2 b).2.1 := by decide +kernel
theorem tyX2_ok : ∀ k, k < 3 → parseFieldDescriptor (TX2 k).2.2.1 = some (tyX2 k) := by decide +kernel
abbrev cX2_init : ByteArray := prog_4_method_1_code
def yX2_init : MethodName := ⟨RX2, "<init>", "()V"⟩
abbrev cX2_enter : ByteArray := prog_4_method_2_code
def yX2_enter : MethodName := ⟨RX2, "enter", "(III)V"⟩
abbrev cX2_partOf : ByteArray := prog_4_method_3_code
def yX2_partOf : MethodName := ⟨RX2, "partOf", "(I)I"⟩
abbrev cX2_part : ByteArray := prog_4_method_4_code
def yX2_part : MethodName := ⟨RX2, "part", "(I)I"⟩
abbrev cX2_giveCoins : ByteArray := prog_4_method_5_code
def yX2_giveCoins : MethodName := ⟨RX2, "giveCoins", "(I)I"⟩
abbrev cX2_roundsAtAStroke : ByteArray := prog_4_method_6_code
def yX2_roundsAtAStroke : MethodName := ⟨RX2, "roundsAtAStroke", "(I)I"⟩
abbrev cX2_canTake : ByteArray := prog_4_method_7_code
def yX2_canTake : MethodName := ⟨RX2, "canTake", "(I)Z"⟩
def RX3 : String := "DefaultFund"
def TX3 : u_T := fun k => match k with
  | 0 => ("DefaultFund", "members", "[LDefaultFund$Member;", true)
  | 1 => ("DefaultFund", "auction", "LDefaultFund$Auction;", true)
  | 2 => ("DefaultFund", "parting", "LDefaultFund$Parting;", true)
  | 3 => ("DefaultFund", "count", "I", false)
  | 4 => ("DefaultFund", "capital", "I", false)
  | 5 => ("DefaultFund", "loss", "I", false)
  | 6 => ("DefaultFund", "uncovered", "I", false)
  | _ => ("DefaultFund", "failing", "I", false)
def tyX3 : Nat → FieldType := fun k => match k with
  | 0 => .array (.object "DefaultFund$Member")
  | 1 => .object "DefaultFund$Auction"
  | 2 => .object "DefaultFund$Parting"
  | 3 => .int
  | 4 => .int
  | 5 => .int
  | 6 => .int
  | _ => .int
abbrev wsX30 : List Cond := u_ws RX3 TX3 8
theorem nmX3 : ∀ a, a < 8 → ∀ b, b < 8 → a ≠ b → (TX3 a).2.1 ≠ (TX3 b).2.1 := by decide +kernel
theorem tyX3_ok : ∀ k, k < 8 → parseFieldDescriptor (TX3 k).2.2.1 = some (tyX3 k) := by decide +kernel
abbrev cX3_init : ByteArray := prog_1_method_1_code
def yX3_init : MethodName := ⟨RX3, "<init>", "()V"⟩
abbrev cX3_addMember : ByteArray := prog_1_method_2_code
def yX3_addMember : MethodName := ⟨RX3, "addMember", "(III)I"⟩
abbrev cX3_addClient : ByteArray := prog_1_method_3_code
def yX3_addClient : MethodName := ⟨RX3, "addClient", "(II)I"⟩
abbrev cX3_setGain : ByteArray := prog_1_method_4_code
def yX3_setGain : MethodName := ⟨RX3, "setGain", "(II)I"⟩
abbrev cX3_setTested : ByteArray := prog_1_method_5_code
def yX3_setTested : MethodName := ⟨RX3, "setTested", "(II)I"⟩
abbrev cX3_setCapital : ByteArray := prog_1_method_6_code
def yX3_setCapital : MethodName := ⟨RX3, "setCapital", "(I)I"⟩
abbrev cX3_giveNotice : ByteArray := prog_1_method_7_code
def yX3_giveNotice : MethodName := ⟨RX3, "giveNotice", "(I)V"⟩
abbrev cX3_size : ByteArray := prog_1_method_8_code
def yX3_size : MethodName := ⟨RX3, "size", "()I"⟩
abbrev cX3_fail : ByteArray := prog_1_method_9_code
def yX3_fail : MethodName := ⟨RX3, "fail", "(II)I"⟩
abbrev cX3_bid : ByteArray := prog_1_method_10_code
def yX3_bid : MethodName := ⟨RX3, "bid", "(III)V"⟩
abbrev cX3_close : ByteArray := prog_1_method_11_code
def yX3_close : MethodName := ⟨RX3, "close", "()I"⟩
abbrev cX3_members : ByteArray := prog_1_method_12_code
def yX3_members : MethodName := ⟨RX3, "members", "()I"⟩
abbrev cX3_state : ByteArray := prog_1_method_13_code
def yX3_state : MethodName := ⟨RX3, "state", "(I)I"⟩
abbrev cX3_margin : ByteArray := prog_1_method_14_code
def yX3_margin : MethodName := ⟨RX3, "margin", "(I)I"⟩
abbrev cX3_share : ByteArray := prog_1_method_15_code
def yX3_share : MethodName := ⟨RX3, "share", "(I)I"⟩
abbrev cX3_gain : ByteArray := prog_1_method_16_code
def yX3_gain : MethodName := ⟨RX3, "gain", "(I)I"⟩
abbrev cX3_isJunior : ByteArray := prog_1_method_17_code
def yX3_isJunior : MethodName := ⟨RX3, "isJunior", "(I)Z"⟩
abbrev cX3_assessed : ByteArray := prog_1_method_18_code
def yX3_assessed : MethodName := ⟨RX3, "assessed", "(I)I"⟩
abbrev cX3_clientLots : ByteArray := prog_1_method_19_code
def yX3_clientLots : MethodName := ⟨RX3, "clientLots", "(I)I"⟩
abbrev cX3_won : ByteArray := prog_1_method_20_code
def yX3_won : MethodName := ⟨RX3, "won", "(I)I"⟩
abbrev cX3_capital : ByteArray := prog_1_method_21_code
def yX3_capital : MethodName := ⟨RX3, "capital", "()I"⟩
abbrev cX3_loss : ByteArray := prog_1_method_22_code
def yX3_loss : MethodName := ⟨RX3, "loss", "()I"⟩
abbrev cX3_uncovered : ByteArray := prog_1_method_23_code
def yX3_uncovered : MethodName := ⟨RX3, "uncovered", "()I"⟩
abbrev cX3_failing : ByteArray := prog_1_method_24_code
def yX3_failing : MethodName := ⟨RX3, "failing", "()I"⟩
abbrev cX3_existing : ByteArray := prog_1_method_25_code
def yX3_existing : MethodName := ⟨RX3, "existing", "(I)LDefaultFund$Member;"⟩
abbrev cX3_requireBetween : ByteArray := prog_1_method_26_code
def yX3_requireBetween : MethodName := ⟨RX3, "requireBetween", "(III)V"⟩
abbrev cX3_requireActive : ByteArray := prog_1_method_27_code
def yX3_requireActive : MethodName := ⟨RX3, "requireActive", "(LDefaultFund$Member;)V"⟩
abbrev cX3_requireNoFailure : ByteArray := prog_1_method_28_code
def yX3_requireNoFailure : MethodName := ⟨RX3, "requireNoFailure", "()V"⟩
abbrev cX3_neededFund : ByteArray := prog_1_method_29_code
def yX3_neededFund : MethodName := ⟨RX3, "neededFund", "()I"⟩
abbrev cX3_moveClients : ByteArray := prog_1_method_30_code
def yX3_moveClients : MethodName := ⟨RX3, "moveClients", "(LDefaultFund$Member;)I"⟩
abbrev cX3_findsHost : ByteArray := prog_1_method_31_code
def yX3_findsHost : MethodName := ⟨RX3, "findsHost", "(I)Z"⟩
abbrev cX3_awardLots : ByteArray := prog_1_method_32_code
def yX3_awardLots : MethodName := ⟨RX3, "awardLots", "()I"⟩
abbrev cX3_rankBidders : ByteArray := prog_1_method_33_code
def yX3_rankBidders : MethodName := ⟨RX3, "rankBidders", "()V"⟩
abbrev cX3_endFailure : ByteArray := prog_1_method_34_code
def yX3_endFailure : MethodName := ⟨RX3, "endFailure", "(LDefaultFund$Member;)V"⟩
abbrev cX3_eatLoss : ByteArray := prog_1_method_35_code
def yX3_eatLoss : MethodName := ⟨RX3, "eatLoss", "(LDefaultFund$Member;)I"⟩
abbrev cX3_eatShares : ByteArray := prog_1_method_36_code
def yX3_eatShares : MethodName := ⟨RX3, "eatShares", "(IZ)I"⟩
abbrev cX3_eatAssessments : ByteArray := prog_1_method_37_code
def yX3_eatAssessments : MethodName := ⟨RX3, "eatAssessments", "(I)I"⟩
abbrev cX3_eatGains : ByteArray := prog_1_method_38_code
def yX3_eatGains : MethodName := ⟨RX3, "eatGains", "(I)I"⟩
def RX4 : String := "DefaultFundModel"
def TX4 : u_T := fun k => match k with
  | 0 => ("DefaultFundModel", "margins", "[I", true)
  | 1 => ("DefaultFundModel", "sharesOf", "[I", true)
  | 2 => ("DefaultFundModel", "rooms", "[I", true)
  | 3 => ("DefaultFundModel", "gains", "[I", true)
  | 4 => ("DefaultFundModel", "tested", "[I", true)
  | 5 => ("DefaultFundModel", "states", "[I", true)
  | 6 => ("DefaultFundModel", "juniors", "[I", true)
  | 7 => ("DefaultFundModel", "assessedBy", "[I", true)
  | 8 => ("DefaultFundModel", "wonBy", "[I", true)
  | 9 => ("DefaultFundModel", "many", "I", false)
  | 10 => ("DefaultFundModel", "owners", "[I", true)
  | 11 => ("DefaultFundModel", "lotsOf", "[I", true)
  | 12 => ("DefaultFundModel", "cameAt", "[I", true)
  | 13 => ("DefaultFundModel", "came", "I", false)
  | 14 => ("DefaultFundModel", "clients", "I", false)
  | 15 => ("DefaultFundModel", "capitalNow", "I", false)
  | 16 => ("DefaultFundModel", "lossNow", "I", false)
  | 17 => ("DefaultFundModel", "uncoveredNow", "I", false)
  | 18 => ("DefaultFundModel", "failed", "I", false)
  | 19 => ("DefaultFundModel", "book", "I", false)
  | 20 => ("DefaultFundModel", "bids", "[I", true)
  | 21 => ("DefaultFundModel", "sharesThen", "[I", true)
  | 22 => ("DefaultFundModel", "weights", "[I", true)
  | 23 => ("DefaultFundModel", "bounds", "[I", true)
  | 24 => ("DefaultFundModel", "parts", "[I", true)
  | _ => ("DefaultFundModel", "thrown", "I", false)
def tyX4 : Nat → FieldType := fun k => match k with
  | 0 => .array .int
  | 1 => .array .int
  | 2 => .array .int
  | 3 => .array .int
  | 4 => .array .int
  | 5 => .array .int
  | 6 => .array .int
  | 7 => .array .int
  | 8 => .array .int
  | 9 => .int
  | 10 => .array .int
  | 11 => .array .int
  | 12 => .array .int
  | 13 => .int
  | 14 => .int
  | 15 => .int
  | 16 => .int
  | 17 => .int
  | 18 => .int
  | 19 => .int
  | 20 => .array .int
  | 21 => .array .int
  | 22 => .array .int
  | 23 => .array .int
  | 24 => .array .int
  | _ => .int
abbrev wsX40 : List Cond := u_ws RX4 TX4 26
theorem nmX4 : ∀ a, a < 26 → ∀ b, b < 26 → a ≠ b → (TX4 a).2.1 ≠ (TX4 b).2.1 := by decide +kernel
theorem tyX4_ok : ∀ k, k < 26 → parseFieldDescriptor (TX4 k).2.2.1 = some (tyX4 k) := by decide +kernel
abbrev cX4_init : ByteArray := prog_6_method_1_code
def yX4_init : MethodName := ⟨RX4, "<init>", "()V"⟩
abbrev cX4_thrown : ByteArray := prog_6_method_2_code
def yX4_thrown : MethodName := ⟨RX4, "thrown", "()I"⟩
abbrev cX4_fails : ByteArray := prog_6_method_3_code
def yX4_fails : MethodName := ⟨RX4, "fails", "(I)I"⟩
abbrev cX4_in : ByteArray := prog_6_method_4_code
def yX4_in : MethodName := ⟨RX4, "in", "(III)Z"⟩
abbrev cX4_isMember : ByteArray := prog_6_method_5_code
def yX4_isMember : MethodName := ⟨RX4, "isMember", "(I)Z"⟩
abbrev cX4_isActive : ByteArray := prog_6_method_6_code
def yX4_isActive : MethodName := ⟨RX4, "isActive", "(I)Z"⟩
abbrev cX4_addMember : ByteArray := prog_6_method_7_code
def yX4_addMember : MethodName := ⟨RX4, "addMember", "(III)I"⟩
abbrev cX4_lotsWith : ByteArray := prog_6_method_8_code
def yX4_lotsWith : MethodName := ⟨RX4, "lotsWith", "(I)I"⟩
abbrev cX4_roomOf : ByteArray := prog_6_method_9_code
def yX4_roomOf : MethodName := ⟨RX4, "roomOf", "(I)I"⟩
abbrev cX4_addClient : ByteArray := prog_6_method_10_code
def yX4_addClient : MethodName := ⟨RX4, "addClient", "(II)I"⟩
abbrev cX4_setGain : ByteArray := prog_6_method_11_code
def yX4_setGain : MethodName := ⟨RX4, "setGain", "(II)I"⟩
abbrev cX4_setTested : ByteArray := prog_6_method_12_code
def yX4_setTested : MethodName := ⟨RX4, "setTested", "(II)I"⟩
abbrev cX4_setCapital : ByteArray := prog_6_method_13_code
def yX4_setCapital : MethodName := ⟨RX4, "setCapital", "(I)I"⟩
abbrev cX4_giveNotice : ByteArray := prog_6_method_14_code
def yX4_giveNotice : MethodName := ⟨RX4, "giveNotice", "(I)V"⟩
abbrev cX4_part : ByteArray := prog_6_method_15_code
def yX4_part : MethodName := ⟨RX4, "part", "(J)I"⟩
abbrev cX4_size : ByteArray := prog_6_method_16_code
def yX4_size : MethodName := ⟨RX4, "size", "()I"⟩
abbrev cX4_newOwner : ByteArray := prog_6_method_17_code
def yX4_newOwner : MethodName := ⟨RX4, "newOwner", "(I)I"⟩
abbrev cX4_firstOf : ByteArray := prog_6_method_18_code
def yX4_firstOf : MethodName := ⟨RX4, "firstOf", "(I)I"⟩
abbrev cX4_fail : ByteArray := prog_6_method_19_code
def yX4_fail : MethodName := ⟨RX4, "fail", "(II)I"⟩
abbrev cX4_bid : ByteArray := prog_6_method_20_code
def yX4_bid : MethodName := ⟨RX4, "bid", "(III)V"⟩
abbrev cX4_winner : ByteArray := prog_6_method_21_code
def yX4_winner : MethodName := ⟨RX4, "winner", "(I)I"⟩
abbrev cX4_rank : ByteArray := prog_6_method_22_code
def yX4_rank : MethodName := ⟨RX4, "rank", "(I)V"⟩
abbrev cX4_eatShares : ByteArray := prog_6_method_23_code
def yX4_eatShares : MethodName := ⟨RX4, "eatShares", "(II)I"⟩
abbrev cX4_assess : ByteArray := prog_6_method_24_code
def yX4_assess : MethodName := ⟨RX4, "assess", "(I)I"⟩
abbrev cX4_cutGains : ByteArray := prog_6_method_25_code
def yX4_cutGains : MethodName := ⟨RX4, "cutGains", "(I)I"⟩
abbrev cX4_empty : ByteArray := prog_6_method_26_code
def yX4_empty : MethodName := ⟨RX4, "empty", "(II)V"⟩
abbrev cX4_close : ByteArray := prog_6_method_27_code
def yX4_close : MethodName := ⟨RX4, "close", "()I"⟩
abbrev cX4_members : ByteArray := prog_6_method_28_code
def yX4_members : MethodName := ⟨RX4, "members", "()I"⟩
abbrev cX4_state : ByteArray := prog_6_method_29_code
def yX4_state : MethodName := ⟨RX4, "state", "(I)I"⟩
abbrev cX4_margin : ByteArray := prog_6_method_30_code
def yX4_margin : MethodName := ⟨RX4, "margin", "(I)I"⟩
abbrev cX4_share : ByteArray := prog_6_method_31_code
def yX4_share : MethodName := ⟨RX4, "share", "(I)I"⟩
abbrev cX4_gain : ByteArray := prog_6_method_32_code
def yX4_gain : MethodName := ⟨RX4, "gain", "(I)I"⟩
abbrev cX4_isJunior : ByteArray := prog_6_method_33_code
def yX4_isJunior : MethodName := ⟨RX4, "isJunior", "(I)Z"⟩
abbrev cX4_assessed : ByteArray := prog_6_method_34_code
def yX4_assessed : MethodName := ⟨RX4, "assessed", "(I)I"⟩
abbrev cX4_clientLots : ByteArray := prog_6_method_35_code
def yX4_clientLots : MethodName := ⟨RX4, "clientLots", "(I)I"⟩
abbrev cX4_won : ByteArray := prog_6_method_36_code
def yX4_won : MethodName := ⟨RX4, "won", "(I)I"⟩
abbrev cX4_capital : ByteArray := prog_6_method_37_code
def yX4_capital : MethodName := ⟨RX4, "capital", "()I"⟩
abbrev cX4_loss : ByteArray := prog_6_method_38_code
def yX4_loss : MethodName := ⟨RX4, "loss", "()I"⟩
abbrev cX4_uncovered : ByteArray := prog_6_method_39_code
def yX4_uncovered : MethodName := ⟨RX4, "uncovered", "()I"⟩
abbrev cX4_failing : ByteArray := prog_6_method_40_code
def yX4_failing : MethodName := ⟨RX4, "failing", "()I"⟩
def RJ9 : String := "java/lang/Math"
def TJ9 : u_T := fun k => match k with
  | _ => ("", "", "", false)
def tyJ9 : Nat → FieldType := fun k => match k with
  | _ => .int
abbrev wsJ90 : List Cond := u_ws RJ9 TJ9 0
theorem nmJ9 : ∀ a, a < 0 → ∀ b, b < 0 → a ≠ b → (TJ9 a).2.1 ≠ (TJ9 b).2.1 := by decide +kernel
theorem tyJ9_ok : ∀ k, k < 0 → parseFieldDescriptor (TJ9 k).2.2.1 = some (tyJ9 k) := by decide +kernel
abbrev cJ9_max_7cf53 : ByteArray := prog_11_method_65_code
def yJ9_max_7cf53 : MethodName := ⟨RJ9, "max", "(II)I"⟩
abbrev cJ9_min_7cf53 : ByteArray := prog_11_method_69_code
def yJ9_min_7cf53 : MethodName := ⟨RJ9, "min", "(II)I"⟩
def RJ0 : String := "java/lang/String"
def TJ0 : u_T := fun k => match k with
  | _ => ("", "", "", false)
def tyJ0 : Nat → FieldType := fun k => match k with
  | _ => .int
abbrev wsJ00 : List Cond := u_ws RJ0 TJ0 0
theorem nmJ0 : ∀ a, a < 0 → ∀ b, b < 0 → a ≠ b → (TJ0 a).2.1 ≠ (TJ0 b).2.1 := by decide +kernel
theorem tyJ0_ok : ∀ k, k < 0 → parseFieldDescriptor (TJ0 k).2.2.1 = some (tyJ0 k) := by decide +kernel
def RL : String := "DefaultFundLaw"
abbrev cL_addMember : ByteArray := method_3_code
def yL_addMember : MethodName := ⟨RL, "addMember", "(LDefaultFund;III[J)I"⟩
abbrev cL_addClient : ByteArray := method_4_code
def yL_addClient : MethodName := ⟨RL, "addClient", "(LDefaultFund;II[J)I"⟩
abbrev cL_setGain : ByteArray := method_5_code
def yL_setGain : MethodName := ⟨RL, "setGain", "(LDefaultFund;II[J)I"⟩
abbrev cL_setTested : ByteArray := method_6_code
def yL_setTested : MethodName := ⟨RL, "setTested", "(LDefaultFund;II[J)I"⟩
abbrev cL_setCapital : ByteArray := method_7_code
def yL_setCapital : MethodName := ⟨RL, "setCapital", "(LDefaultFund;I[J)I"⟩
abbrev cL_giveNotice : ByteArray := method_8_code
def yL_giveNotice : MethodName := ⟨RL, "giveNotice", "(LDefaultFund;I)I"⟩
abbrev cL_size : ByteArray := method_9_code
def yL_size : MethodName := ⟨RL, "size", "(LDefaultFund;[J)I"⟩
abbrev cL_fail : ByteArray := method_10_code
def yL_fail : MethodName := ⟨RL, "fail", "(LDefaultFund;II[J)I"⟩
abbrev cL_bid : ByteArray := method_11_code
def yL_bid : MethodName := ⟨RL, "bid", "(LDefaultFund;III)I"⟩
abbrev cL_close : ByteArray := method_12_code
def yL_close : MethodName := ⟨RL, "close", "(LDefaultFund;[J)I"⟩
abbrev cL_state : ByteArray := method_13_code
def yL_state : MethodName := ⟨RL, "state", "(LDefaultFund;I[J)I"⟩
abbrev cL_margin : ByteArray := method_14_code
def yL_margin : MethodName := ⟨RL, "margin", "(LDefaultFund;I[J)I"⟩
abbrev cL_share : ByteArray := method_15_code
def yL_share : MethodName := ⟨RL, "share", "(LDefaultFund;I[J)I"⟩
abbrev cL_gain : ByteArray := method_16_code
def yL_gain : MethodName := ⟨RL, "gain", "(LDefaultFund;I[J)I"⟩
abbrev cL_isJunior : ByteArray := method_17_code
def yL_isJunior : MethodName := ⟨RL, "isJunior", "(LDefaultFund;I[J)I"⟩
abbrev cL_assessed : ByteArray := method_18_code
def yL_assessed : MethodName := ⟨RL, "assessed", "(LDefaultFund;I[J)I"⟩
abbrev cL_clientLots : ByteArray := method_19_code
def yL_clientLots : MethodName := ⟨RL, "clientLots", "(LDefaultFund;I[J)I"⟩
abbrev cL_won : ByteArray := method_20_code
def yL_won : MethodName := ⟨RL, "won", "(LDefaultFund;I[J)I"⟩
abbrev cL_law : ByteArray := code
def yL_law : MethodName := ⟨RL, "law", "([I)Z"⟩
def wsX0_init : List Cond := .code yX0_init cX0_init 1 none :: ([.methodLink RX0 3 objectInit, .instanceMethod objectInit, .code objectInit ⟨#[0xb1]⟩ 1 none, .classLink RX0 9 "[[I", .arrayClass .int, .fieldLink RX0 11 "DefaultFund$Auction" "bids" "[[I", .fieldLink RX0 16 "DefaultFund$Auction" "lots" "I"] ++ wsX00)
def wsX0_open : List Cond := .code yX0_open cX0_open 4 none :: ([.methodLink RX0 20 Lib.Math.min.name, .static Lib.Math.min.name, .initialized "java/lang/Math", .code Lib.Math.min.name Lib.Math.min.code 2 (some .int), .fieldLink RX0 16 "DefaultFund$Auction" "lots" "I", .fieldLink RX0 11 "DefaultFund$Auction" "bids" "[[I"] ++ wsX00)
def wsX0_hasLot : List Cond := .code yX0_hasLot cX0_hasLot 2 (some .boolean) :: ([.fieldLink RX0 16 "DefaultFund$Auction" "lots" "I"] ++ wsX00)
def wsX0_bidOf : List Cond := .code yX0_bidOf cX0_bidOf 3 (some .int) :: ([.fieldLink RX0 11 "DefaultFund$Auction" "bids" "[[I"] ++ wsX00)
def wsX0_enter : List Cond := .code yX0_enter cX0_enter 4 none :: ([.fieldLink RX0 11 "DefaultFund$Auction" "bids" "[[I"] ++ wsX00)
def wsX0_winnerOf : List Cond := .code yX0_winnerOf cX0_winnerOf 5 (some .int) :: ([.fieldLink RX0 11 "DefaultFund$Auction" "bids" "[[I"] ++ wsX00)
def wsX0_isLow : List Cond := .code yX0_isLow cX0_isLow 4 (some .boolean) :: ([.fieldLink RX0 11 "DefaultFund$Auction" "bids" "[[I", .methodLink RX0 30 yX0_winnerOf, .instanceMethod yX0_winnerOf, .selects RX0 yX0_winnerOf yX0_winnerOf, .initialized RX0, .code yX0_winnerOf cX0_winnerOf 5 (some .int)] ++ wsX00)
def wsX0_bidPoorly : List Cond := .code yX0_bidPoorly cX0_bidPoorly 5 (some .boolean) :: ([.fieldLink RX0 16 "DefaultFund$Auction" "lots" "I", .fieldLink RX0 11 "DefaultFund$Auction" "bids" "[[I", .methodLink RX0 26 yX0_isLow, .instanceMethod yX0_isLow, .selects RX0 yX0_isLow yX0_isLow, .initialized RX0, .code yX0_isLow cX0_isLow 4 (some .boolean), .methodLink RX0 30 yX0_winnerOf, .instanceMethod yX0_winnerOf, .selects RX0 yX0_winnerOf yX0_winnerOf, .code yX0_winnerOf cX0_winnerOf 5 (some .int)] ++ wsX00)
def wsX1_init : List Cond := .code yX1_init cX1_init 1 none :: ([.methodLink RX1 3 objectInit, .instanceMethod objectInit, .code objectInit ⟨#[0xb1]⟩ 1 none, .arrayClass .int, .fieldLink RX1 9 "DefaultFund$Member" "clients" "[I", .fieldLink RX1 15 "DefaultFund$Member" "clientCount" "I", .fieldLink RX1 19 "DefaultFund$Member" "clientLots" "I", .fieldLink RX1 22 "DefaultFund$Member" "state" "I", .fieldLink RX1 25 "DefaultFund$Member" "margin" "I", .fieldLink RX1 28 "DefaultFund$Member" "share" "I", .fieldLink RX1 31 "DefaultFund$Member" "room" "I", .fieldLink RX1 34 "DefaultFund$Member" "gain" "I", .fieldLink RX1 37 "DefaultFund$Member" "tested" "I", .fieldLink RX1 40 "DefaultFund$Member" "junior" "Z", .fieldLink RX1 44 "DefaultFund$Member" "assessed" "I", .fieldLink RX1 47 "DefaultFund$Member" "won" "I", .fieldLink RX1 50 "DefaultFund$Member" "shareAtFailure" "I"] ++ wsX10)
def wsX1_join : List Cond := .code yX1_join cX1_join 4 none :: ([.fieldLink RX1 25 "DefaultFund$Member" "margin" "I", .fieldLink RX1 28 "DefaultFund$Member" "share" "I", .fieldLink RX1 31 "DefaultFund$Member" "room" "I"] ++ wsX10)
def wsX1_isActive : List Cond := .code yX1_isActive cX1_isActive 1 (some .boolean) :: ([.fieldLink RX1 22 "DefaultFund$Member" "state" "I"] ++ wsX10)
def wsX1_freeRoom : List Cond := .code yX1_freeRoom cX1_freeRoom 1 (some .int) :: ([.fieldLink RX1 31 "DefaultFund$Member" "room" "I", .fieldLink RX1 19 "DefaultFund$Member" "clientLots" "I"] ++ wsX10)
def wsX1_takesClient : List Cond := .code yX1_takesClient cX1_takesClient 2 (some .boolean) :: ([.fieldLink RX1 15 "DefaultFund$Member" "clientCount" "I", .fieldLink RX1 9 "DefaultFund$Member" "clients" "[I", .fieldLink RX1 19 "DefaultFund$Member" "clientLots" "I", .methodLink RX1 53 yX1_freeRoom, .instanceMethod yX1_freeRoom, .selects RX1 yX1_freeRoom yX1_freeRoom, .initialized RX1, .code yX1_freeRoom cX1_freeRoom 1 (some .int), .fieldLink RX1 31 "DefaultFund$Member" "room" "I"] ++ wsX10)
def wsX1_dropClients : List Cond := .code yX1_dropClients cX1_dropClients 1 none :: ([.fieldLink RX1 15 "DefaultFund$Member" "clientCount" "I", .fieldLink RX1 19 "DefaultFund$Member" "clientLots" "I"] ++ wsX10)
def wsX1_raiseShare : List Cond := .code yX1_raiseShare cX1_raiseShare 3 (some .int) :: ([.fieldLink RX1 28 "DefaultFund$Member" "share" "I", .methodLink RX1 57 Lib.Math.max.name, .static Lib.Math.max.name, .initialized "java/lang/Math", .code Lib.Math.max.name Lib.Math.max.code 2 (some .int)] ++ wsX10)
def wsX1_loseAll : List Cond := .code yX1_loseAll cX1_loseAll 1 none :: ([.fieldLink RX1 25 "DefaultFund$Member" "margin" "I", .fieldLink RX1 28 "DefaultFund$Member" "share" "I", .fieldLink RX1 34 "DefaultFund$Member" "gain" "I", .methodLink RX1 63 yX1_dropClients, .instanceMethod yX1_dropClients, .selects RX1 yX1_dropClients yX1_dropClients, .initialized RX1, .code yX1_dropClients cX1_dropClients 1 none, .fieldLink RX1 15 "DefaultFund$Member" "clientCount" "I", .fieldLink RX1 19 "DefaultFund$Member" "clientLots" "I"] ++ wsX10)
def wsX2_init : List Cond := .code yX2_init cX2_init 1 none :: ([.methodLink RX2 3 objectInit, .instanceMethod objectInit, .code objectInit ⟨#[0xb1]⟩ 1 none, .arrayClass .int, .fieldLink RX2 9 "DefaultFund$Parting" "weights" "[I", .fieldLink RX2 15 "DefaultFund$Parting" "bounds" "[I", .fieldLink RX2 18 "DefaultFund$Parting" "parts" "[I"] ++ wsX20)
def wsX2_enter : List Cond := .code yX2_enter cX2_enter 4 none :: ([.fieldLink RX2 9 "DefaultFund$Parting" "weights" "[I", .fieldLink RX2 15 "DefaultFund$Parting" "bounds" "[I"] ++ wsX20)
def wsX2_partOf : List Cond := .code yX2_partOf cX2_partOf 2 (some .int) :: ([.fieldLink RX2 18 "DefaultFund$Parting" "parts" "[I"] ++ wsX20)
def wsX2_canTake : List Cond := .code yX2_canTake cX2_canTake 2 (some .boolean) :: ([.fieldLink RX2 9 "DefaultFund$Parting" "weights" "[I", .fieldLink RX2 18 "DefaultFund$Parting" "parts" "[I", .fieldLink RX2 15 "DefaultFund$Parting" "bounds" "[I"] ++ wsX20)
def wsX2_roundsAtAStroke : List Cond := .code yX2_roundsAtAStroke cX2_roundsAtAStroke 5 (some .int) :: ([.fieldLink RX2 15 "DefaultFund$Parting" "bounds" "[I", .fieldLink RX2 18 "DefaultFund$Parting" "parts" "[I", .methodLink RX2 21 Lib.Math.min.name, .static Lib.Math.min.name, .initialized "java/lang/Math", .code Lib.Math.min.name Lib.Math.min.code 2 (some .int), .methodLink RX2 38 Lib.Math.max.name, .static Lib.Math.max.name, .code Lib.Math.max.name Lib.Math.max.code 2 (some .int), .methodLink RX2 34 yX2_canTake, .instanceMethod yX2_canTake, .selects RX2 yX2_canTake yX2_canTake, .initialized RX2, .code yX2_canTake cX2_canTake 2 (some .boolean), .fieldLink RX2 9 "DefaultFund$Parting" "weights" "[I"] ++ wsX20)
def wsX2_giveCoins : List Cond := .code yX2_giveCoins cX2_giveCoins 6 (some .int) :: ([.fieldLink RX2 18 "DefaultFund$Parting" "parts" "[I", .methodLink RX2 31 yX2_roundsAtAStroke, .instanceMethod yX2_roundsAtAStroke, .selects RX2 yX2_roundsAtAStroke yX2_roundsAtAStroke, .initialized RX2, .code yX2_roundsAtAStroke cX2_roundsAtAStroke 5 (some .int), .fieldLink RX2 15 "DefaultFund$Parting" "bounds" "[I", .methodLink RX2 21 Lib.Math.min.name, .static Lib.Math.min.name, .initialized "java/lang/Math", .code Lib.Math.min.name Lib.Math.min.code 2 (some .int), .methodLink RX2 38 Lib.Math.max.name, .static Lib.Math.max.name, .code Lib.Math.max.name Lib.Math.max.code 2 (some .int), .methodLink RX2 34 yX2_canTake, .instanceMethod yX2_canTake, .selects RX2 yX2_canTake yX2_canTake, .code yX2_canTake cX2_canTake 2 (some .boolean), .fieldLink RX2 9 "DefaultFund$Parting" "weights" "[I"] ++ wsX20)
def wsX2_part : List Cond := .code yX2_part cX2_part 6 (some .int) :: ([.fieldLink RX2 9 "DefaultFund$Parting" "weights" "[I", .fieldLink RX2 18 "DefaultFund$Parting" "parts" "[I", .fieldLink RX2 15 "DefaultFund$Parting" "bounds" "[I", .methodLink RX2 21 Lib.Math.min.name, .static Lib.Math.min.name, .initialized "java/lang/Math", .code Lib.Math.min.name Lib.Math.min.code 2 (some .int), .methodLink RX2 27 yX2_giveCoins, .instanceMethod yX2_giveCoins, .selects RX2 yX2_giveCoins yX2_giveCoins, .initialized RX2, .code yX2_giveCoins cX2_giveCoins 6 (some .int), .methodLink RX2 31 yX2_roundsAtAStroke, .instanceMethod yX2_roundsAtAStroke, .selects RX2 yX2_roundsAtAStroke yX2_roundsAtAStroke, .code yX2_roundsAtAStroke cX2_roundsAtAStroke 5 (some .int), .methodLink RX2 38 Lib.Math.max.name, .static Lib.Math.max.name, .code Lib.Math.max.name Lib.Math.max.code 2 (some .int), .methodLink RX2 34 yX2_canTake, .instanceMethod yX2_canTake, .selects RX2 yX2_canTake yX2_canTake, .code yX2_canTake cX2_canTake 2 (some .boolean)] ++ wsX20)
def wsX3_init_r1 : List Cond := [Cond.methodLink RX3 3 objectInit, Cond.instanceMethod objectInit, Cond.code objectInit ⟨#[0xb1]⟩ 1 none, Cond.classLink RX3 9 RX1, Cond.fieldLink RX3 11 "DefaultFund" "members" "[LDefaultFund$Member;", Cond.classLink RX3 15 RX0, Cond.instantiable RX0 2, Cond.initialized RX0, Cond.fieldLink RX3 18 "DefaultFund" "auction" "LDefaultFund$Auction;", Cond.classLink RX3 22 RX2, Cond.instantiable RX2 3, Cond.initialized RX2, Cond.fieldLink RX3 25 "DefaultFund" "parting" "LDefaultFund$Parting;", Cond.fieldLink RX3 29 "DefaultFund" "count" "I", Cond.fieldLink RX3 33 "DefaultFund" "capital" "I", Cond.fieldLink RX3 36 "DefaultFund" "loss" "I", Cond.fieldLink RX3 39 "DefaultFund" "uncovered" "I", Cond.fieldLink RX3 42 "DefaultFund" "failing" "I", Cond.instantiable RX1 13, Cond.initialized RX1, Cond.instanceMethod yX0_init, Cond.code yX0_init cX0_init 1 none, Cond.methodLink RX0 3 objectInit, Cond.classLink RX0 9 "[[I"]
def wsX3_init_r2 : List Cond := [Cond.arrayClass .int, Cond.fieldLink RX0 11 "DefaultFund$Auction" "bids" "[[I", Cond.fieldLink RX0 16 "DefaultFund$Auction" "lots" "I", Cond.instanceMethod yX2_init, Cond.code yX2_init cX2_init 1 none, Cond.methodLink RX2 3 objectInit, Cond.fieldLink RX2 9 "DefaultFund$Parting" "weights" "[I", Cond.fieldLink RX2 15 "DefaultFund$Parting" "bounds" "[I", Cond.fieldLink RX2 18 "DefaultFund$Parting" "parts" "[I", Cond.instanceMethod yX1_init, Cond.code yX1_init cX1_init 1 none, Cond.methodLink RX1 3 objectInit, Cond.fieldLink RX1 9 "DefaultFund$Member" "clients" "[I", Cond.fieldLink RX1 15 "DefaultFund$Member" "clientCount" "I", Cond.fieldLink RX1 19 "DefaultFund$Member" "clientLots" "I", Cond.fieldLink RX1 22 "DefaultFund$Member" "state" "I", Cond.fieldLink RX1 25 "DefaultFund$Member" "margin" "I", Cond.fieldLink RX1 28 "DefaultFund$Member" "share" "I", Cond.fieldLink RX1 31 "DefaultFund$Member" "room" "I", Cond.fieldLink RX1 34 "DefaultFund$Member" "gain" "I", Cond.fieldLink RX1 37 "DefaultFund$Member" "tested" "I", Cond.fieldLink RX1 40 "DefaultFund$Member" "junior" "Z", Cond.fieldLink RX1 44 "DefaultFund$Member" "assessed" "I", Cond.fieldLink RX1 47 "DefaultFund$Member" "won" "I"]
def wsX3_init_r3 : List Cond := [Cond.fieldLink RX1 50 "DefaultFund$Member" "shareAtFailure" "I"]
def wsX3_init : List Cond := .code yX3_init cX3_init 2 none :: ((wsX3_init_r1 ++ (wsX3_init_r2 ++ wsX3_init_r3)) ++ wsX30 ++ wsX00 ++ wsX20 ++ wsX10)
def wsX3_requireBetween : List Cond := .code yX3_requireBetween cX3_requireBetween 3 none :: ([.classLink RX3 179 "java/lang/IllegalArgumentException", .initialized "java/lang/IllegalArgumentException"] ++ (vx_atS RX3 183 "java/lang/IllegalArgumentException" ["java/lang/RuntimeException", "java/lang/Exception"]).filter goodWord)
def wsX3_addMember : List Cond := .code yX3_addMember cX3_addMember 4 (some .int) :: ([.classLink RX3 51 "java/lang/IllegalStateException", .initialized "java/lang/IllegalStateException", .constant RX3 46 (1000000), .fieldLink RX3 29 "DefaultFund" "count" "I", .fieldLink RX3 11 "DefaultFund" "members" "[LDefaultFund$Member;", .methodLink RX3 47 yX3_requireBetween, .static yX3_requireBetween, .initialized RX3, .code yX3_requireBetween cX3_requireBetween 3 none, .classLink RX3 179 "java/lang/IllegalArgumentException", .initialized "java/lang/IllegalArgumentException", .instanceMethod yX1_join, .initialized RX1, .selects RX1 yX1_join yX1_join, .code yX1_join cX1_join 4 none, .fieldLink RX1 25 "DefaultFund$Member" "margin" "I", .fieldLink RX1 28 "DefaultFund$Member" "share" "I", .fieldLink RX1 31 "DefaultFund$Member" "room" "I"] ++ wsX30 ++ wsX10 ++ (vx_atS RX3 55 "java/lang/IllegalStateException" ["java/lang/RuntimeException", "java/lang/Exception"]).filter goodWord ++ (vx_atS RX3 183 "java/lang/IllegalArgumentException" ["java/lang/RuntimeException", "java/lang/Exception"]).filter goodWord)
def wsX3_existing : List Cond := .code yX3_existing cX3_existing 2 (some (.object "DefaultFund$Member")) :: ([.classLink RX3 133 "java/lang/IndexOutOfBoundsException", .initialized "java/lang/IndexOutOfBoundsException", .fieldLink RX3 29 "DefaultFund" "count" "I", .fieldLink RX3 11 "DefaultFund" "members" "[LDefaultFund$Member;"] ++ wsX30 ++ (vx_atS RX3 137 "java/lang/IndexOutOfBoundsException" ["java/lang/RuntimeException", "java/lang/Exception"]).filter goodWord)
def wsX3_requireActive : List Cond := .code yX3_requireActive cX3_requireActive 1 none :: ([.classLink RX3 51 "java/lang/IllegalStateException", .initialized "java/lang/IllegalStateException", .instanceMethod yX1_isActive, .initialized RX1, .selects RX1 yX1_isActive yX1_isActive, .code yX1_isActive cX1_isActive 1 (some .boolean), .fieldLink RX1 22 "DefaultFund$Member" "state" "I"] ++ wsX10 ++ (vx_atS RX3 55 "java/lang/IllegalStateException" ["java/lang/RuntimeException", "java/lang/Exception"]).filter goodWord)
def wsX3_addClient_r1 : List Cond := [Cond.classLink RX3 51 "java/lang/IllegalStateException", Cond.initialized "java/lang/IllegalStateException", Cond.methodLink RX3 61 yX3_existing, Cond.instanceMethod yX3_existing, Cond.selects RX3 yX3_existing yX3_existing, Cond.initialized RX3, Cond.code yX3_existing cX3_existing 2 (some (.object "DefaultFund$Member")), Cond.classLink RX3 133 "java/lang/IndexOutOfBoundsException", Cond.initialized "java/lang/IndexOutOfBoundsException", Cond.fieldLink RX3 29 "DefaultFund" "count" "I", Cond.fieldLink RX3 11 "DefaultFund" "members" "[LDefaultFund$Member;", Cond.methodLink RX3 47 yX3_requireBetween, Cond.static yX3_requireBetween, Cond.code yX3_requireBetween cX3_requireBetween 3 none, Cond.classLink RX3 179 "java/lang/IllegalArgumentException", Cond.initialized "java/lang/IllegalArgumentException", Cond.methodLink RX3 65 yX3_requireActive, Cond.static yX3_requireActive, Cond.code yX3_requireActive cX3_requireActive 1 none, Cond.instanceMethod yX1_isActive, Cond.initialized RX1, Cond.selects RX1 yX1_isActive yX1_isActive, Cond.code yX1_isActive cX1_isActive 1 (some .boolean), Cond.fieldLink RX1 22 "DefaultFund$Member" "state" "I"]
def wsX3_addClient_r2 : List Cond := [Cond.instanceMethod yX1_takesClient, Cond.selects RX1 yX1_takesClient yX1_takesClient, Cond.code yX1_takesClient cX1_takesClient 2 (some .boolean), Cond.fieldLink RX1 15 "DefaultFund$Member" "clientCount" "I", Cond.fieldLink RX1 9 "DefaultFund$Member" "clients" "[I", Cond.fieldLink RX1 19 "DefaultFund$Member" "clientLots" "I", Cond.methodLink RX1 53 yX1_freeRoom, Cond.instanceMethod yX1_freeRoom, Cond.selects RX1 yX1_freeRoom yX1_freeRoom, Cond.code yX1_freeRoom cX1_freeRoom 1 (some .int), Cond.fieldLink RX1 31 "DefaultFund$Member" "room" "I"]
def wsX3_addClient : List Cond := .code yX3_addClient cX3_addClient 4 (some .int) :: ((wsX3_addClient_r1 ++ wsX3_addClient_r2) ++ wsX30 ++ wsX10 ++ (vx_atS RX3 55 "java/lang/IllegalStateException" ["java/lang/RuntimeException", "java/lang/Exception"]).filter goodWord ++ (vx_atS RX3 137 "java/lang/IndexOutOfBoundsException" ["java/lang/RuntimeException", "java/lang/Exception"]).filter goodWord ++ (vx_atS RX3 183 "java/lang/IllegalArgumentException" ["java/lang/RuntimeException", "java/lang/Exception"]).filter goodWord)
def wsX3_setGain_r1 : List Cond := [Cond.constant RX3 46 (1000000), Cond.methodLink RX3 61 yX3_existing, Cond.instanceMethod yX3_existing, Cond.selects RX3 yX3_existing yX3_existing, Cond.initialized RX3, Cond.code yX3_existing cX3_existing 2 (some (.object "DefaultFund$Member")), Cond.classLink RX3 133 "java/lang/IndexOutOfBoundsException", Cond.initialized "java/lang/IndexOutOfBoundsException", Cond.fieldLink RX3 29 "DefaultFund" "count" "I", Cond.fieldLink RX3 11 "DefaultFund" "members" "[LDefaultFund$Member;", Cond.methodLink RX3 47 yX3_requireBetween, Cond.static yX3_requireBetween, Cond.code yX3_requireBetween cX3_requireBetween 3 none, Cond.classLink RX3 179 "java/lang/IllegalArgumentException", Cond.initialized "java/lang/IllegalArgumentException", Cond.methodLink RX3 65 yX3_requireActive, Cond.static yX3_requireActive, Cond.code yX3_requireActive cX3_requireActive 1 none, Cond.classLink RX3 51 "java/lang/IllegalStateException", Cond.initialized "java/lang/IllegalStateException", Cond.instanceMethod yX1_isActive, Cond.initialized RX1, Cond.selects RX1 yX1_isActive yX1_isActive, Cond.code yX1_isActive cX1_isActive 1 (some .boolean)]
def wsX3_setGain_r2 : List Cond := [Cond.fieldLink RX1 22 "DefaultFund$Member" "state" "I"]
def wsX3_setGain : List Cond := .code yX3_setGain cX3_setGain 5 (some .int) :: ((wsX3_setGain_r1 ++ wsX3_setGain_r2) ++ wsX10 ++ wsX30 ++ (vx_atS RX3 137 "java/lang/IndexOutOfBoundsException" ["java/lang/RuntimeException", "java/lang/Exception"]).filter goodWord ++ (vx_atS RX3 183 "java/lang/IllegalArgumentException" ["java/lang/RuntimeException", "java/lang/Exception"]).filter goodWord ++ (vx_atS RX3 55 "java/lang/IllegalStateException" ["java/lang/RuntimeException", "java/lang/Exception"]).filter goodWord)
def wsX3_setTested_r1 : List Cond := [Cond.constant RX3 46 (1000000), Cond.methodLink RX3 61 yX3_existing, Cond.instanceMethod yX3_existing, Cond.selects RX3 yX3_existing yX3_existing, Cond.initialized RX3, Cond.code yX3_existing cX3_existing 2 (some (.object "DefaultFund$Member")), Cond.classLink RX3 133 "java/lang/IndexOutOfBoundsException", Cond.initialized "java/lang/IndexOutOfBoundsException", Cond.fieldLink RX3 29 "DefaultFund" "count" "I", Cond.fieldLink RX3 11 "DefaultFund" "members" "[LDefaultFund$Member;", Cond.methodLink RX3 47 yX3_requireBetween, Cond.static yX3_requireBetween, Cond.code yX3_requireBetween cX3_requireBetween 3 none, Cond.classLink RX3 179 "java/lang/IllegalArgumentException", Cond.initialized "java/lang/IllegalArgumentException", Cond.methodLink RX3 65 yX3_requireActive, Cond.static yX3_requireActive, Cond.code yX3_requireActive cX3_requireActive 1 none, Cond.classLink RX3 51 "java/lang/IllegalStateException", Cond.initialized "java/lang/IllegalStateException", Cond.instanceMethod yX1_isActive, Cond.initialized RX1, Cond.selects RX1 yX1_isActive yX1_isActive, Cond.code yX1_isActive cX1_isActive 1 (some .boolean)]
def wsX3_setTested_r2 : List Cond := [Cond.fieldLink RX1 22 "DefaultFund$Member" "state" "I"]
def wsX3_setTested : List Cond := .code yX3_setTested cX3_setTested 5 (some .int) :: ((wsX3_setTested_r1 ++ wsX3_setTested_r2) ++ wsX10 ++ wsX30 ++ (vx_atS RX3 137 "java/lang/IndexOutOfBoundsException" ["java/lang/RuntimeException", "java/lang/Exception"]).filter goodWord ++ (vx_atS RX3 183 "java/lang/IllegalArgumentException" ["java/lang/RuntimeException", "java/lang/Exception"]).filter goodWord ++ (vx_atS RX3 55 "java/lang/IllegalStateException" ["java/lang/RuntimeException", "java/lang/Exception"]).filter goodWord)
def wsX3_setCapital : List Cond := .code yX3_setCapital cX3_setCapital 3 (some .int) :: ([.constant RX3 46 (1000000), .fieldLink RX3 33 "DefaultFund" "capital" "I", .methodLink RX3 47 yX3_requireBetween, .static yX3_requireBetween, .initialized RX3, .code yX3_requireBetween cX3_requireBetween 3 none, .classLink RX3 179 "java/lang/IllegalArgumentException", .initialized "java/lang/IllegalArgumentException"] ++ wsX30 ++ (vx_atS RX3 183 "java/lang/IllegalArgumentException" ["java/lang/RuntimeException", "java/lang/Exception"]).filter goodWord)
def wsX3_requireNoFailure : List Cond := .code yX3_requireNoFailure cX3_requireNoFailure 1 none :: ([.classLink RX3 51 "java/lang/IllegalStateException", .initialized "java/lang/IllegalStateException", .fieldLink RX3 42 "DefaultFund" "failing" "I"] ++ wsX30 ++ (vx_atS RX3 55 "java/lang/IllegalStateException" ["java/lang/RuntimeException", "java/lang/Exception"]).filter goodWord)
def wsX3_giveNotice : List Cond := .code yX3_giveNotice cX3_giveNotice 3 none :: ([.classLink RX3 51 "java/lang/IllegalStateException", .initialized "java/lang/IllegalStateException", .methodLink RX3 61 yX3_existing, .instanceMethod yX3_existing, .selects RX3 yX3_existing yX3_existing, .initialized RX3, .code yX3_existing cX3_existing 2 (some (.object "DefaultFund$Member")), .classLink RX3 133 "java/lang/IndexOutOfBoundsException", .initialized "java/lang/IndexOutOfBoundsException", .fieldLink RX3 29 "DefaultFund" "count" "I", .fieldLink RX3 11 "DefaultFund" "members" "[LDefaultFund$Member;", .methodLink RX3 90 yX3_requireNoFailure, .instanceMethod yX3_requireNoFailure, .selects RX3 yX3_requireNoFailure yX3_requireNoFailure, .code yX3_requireNoFailure cX3_requireNoFailure 1 none, .fieldLink RX3 42 "DefaultFund" "failing" "I"] ++ wsX10 ++ wsX30 ++ (vx_atS RX3 55 "java/lang/IllegalStateException" ["java/lang/RuntimeException", "java/lang/Exception"]).filter goodWord ++ (vx_atS RX3 137 "java/lang/IndexOutOfBoundsException" ["java/lang/RuntimeException", "java/lang/Exception"]).filter goodWord)
def wsX3_neededFund : List Cond := .code yX3_neededFund cX3_neededFund 5 (some .int) :: ([.fieldLink RX3 29 "DefaultFund" "count" "I", .fieldLink RX3 11 "DefaultFund" "members" "[LDefaultFund$Member;", .methodLink RX3 188 Lib.Math.min.name, .static Lib.Math.min.name, .initialized "java/lang/Math", .code Lib.Math.min.name Lib.Math.min.code 2 (some .int), .methodLink RX3 150 Lib.Math.max.name, .static Lib.Math.max.name, .code Lib.Math.max.name Lib.Math.max.code 2 (some .int), .instanceMethod yX1_isActive, .initialized RX1, .selects RX1 yX1_isActive yX1_isActive, .code yX1_isActive cX1_isActive 1 (some .boolean), .fieldLink RX1 22 "DefaultFund$Member" "state" "I"] ++ wsX30 ++ wsX10)
def wsX3_size_r1 : List Cond := [Cond.fieldLink RX3 29 "DefaultFund" "count" "I", Cond.fieldLink RX3 11 "DefaultFund" "members" "[LDefaultFund$Member;", Cond.fieldLink RX3 25 "DefaultFund" "parting" "LDefaultFund$Parting;", Cond.methodLink RX3 90 yX3_requireNoFailure, Cond.instanceMethod yX3_requireNoFailure, Cond.selects RX3 yX3_requireNoFailure yX3_requireNoFailure, Cond.initialized RX3, Cond.code yX3_requireNoFailure cX3_requireNoFailure 1 none, Cond.classLink RX3 51 "java/lang/IllegalStateException", Cond.initialized "java/lang/IllegalStateException", Cond.fieldLink RX3 42 "DefaultFund" "failing" "I", Cond.methodLink RX3 93 yX3_neededFund, Cond.instanceMethod yX3_neededFund, Cond.selects RX3 yX3_neededFund yX3_neededFund, Cond.code yX3_neededFund cX3_neededFund 5 (some .int), Cond.methodLink RX3 188 Lib.Math.min.name, Cond.static Lib.Math.min.name, Cond.initialized "java/lang/Math", Cond.code Lib.Math.min.name Lib.Math.min.code 2 (some .int), Cond.methodLink RX3 150 Lib.Math.max.name, Cond.static Lib.Math.max.name, Cond.code Lib.Math.max.name Lib.Math.max.code 2 (some .int), Cond.instanceMethod yX1_isActive, Cond.initialized RX1]
def wsX3_size_r2 : List Cond := [Cond.selects RX1 yX1_isActive yX1_isActive, Cond.code yX1_isActive cX1_isActive 1 (some .boolean), Cond.fieldLink RX1 22 "DefaultFund$Member" "state" "I", Cond.instanceMethod yX2_enter, Cond.initialized RX2, Cond.selects RX2 yX2_enter yX2_enter, Cond.code yX2_enter cX2_enter 4 none, Cond.fieldLink RX2 9 "DefaultFund$Parting" "weights" "[I", Cond.fieldLink RX2 15 "DefaultFund$Parting" "bounds" "[I", Cond.instanceMethod yX2_part, Cond.selects RX2 yX2_part yX2_part, Cond.code yX2_part cX2_part 6 (some .int), Cond.fieldLink RX2 18 "DefaultFund$Parting" "parts" "[I", Cond.methodLink RX2 21 Lib.Math.min.name, Cond.methodLink RX2 27 yX2_giveCoins, Cond.instanceMethod yX2_giveCoins, Cond.selects RX2 yX2_giveCoins yX2_giveCoins, Cond.code yX2_giveCoins cX2_giveCoins 6 (some .int), Cond.methodLink RX2 31 yX2_roundsAtAStroke, Cond.instanceMethod yX2_roundsAtAStroke, Cond.selects RX2 yX2_roundsAtAStroke yX2_roundsAtAStroke, Cond.code yX2_roundsAtAStroke cX2_roundsAtAStroke 5 (some .int), Cond.methodLink RX2 38 Lib.Math.max.name, Cond.methodLink RX2 34 yX2_canTake]
def wsX3_size_r3 : List Cond := [Cond.instanceMethod yX2_canTake, Cond.selects RX2 yX2_canTake yX2_canTake, Cond.code yX2_canTake cX2_canTake 2 (some .boolean), Cond.instanceMethod yX2_partOf, Cond.selects RX2 yX2_partOf yX2_partOf, Cond.code yX2_partOf cX2_partOf 2 (some .int), Cond.instanceMethod yX1_raiseShare, Cond.selects RX1 yX1_raiseShare yX1_raiseShare, Cond.code yX1_raiseShare cX1_raiseShare 3 (some .int), Cond.fieldLink RX1 28 "DefaultFund$Member" "share" "I", Cond.methodLink RX1 57 Lib.Math.max.name]
def wsX3_size : List Cond := .code yX3_size cX3_size 4 (some .int) :: ((wsX3_size_r1 ++ (wsX3_size_r2 ++ wsX3_size_r3)) ++ wsX30 ++ wsX10 ++ wsX20 ++ (vx_atS RX3 55 "java/lang/IllegalStateException" ["java/lang/RuntimeException", "java/lang/Exception"]).filter goodWord)
def wsX3_findsHost : List Cond := .code yX3_findsHost cX3_findsHost 3 (some .boolean) :: ([.fieldLink RX3 29 "DefaultFund" "count" "I", .fieldLink RX3 11 "DefaultFund" "members" "[LDefaultFund$Member;", .instanceMethod yX1_isActive, .initialized RX1, .selects RX1 yX1_isActive yX1_isActive, .code yX1_isActive cX1_isActive 1 (some .boolean), .fieldLink RX1 22 "DefaultFund$Member" "state" "I", .instanceMethod yX1_takesClient, .selects RX1 yX1_takesClient yX1_takesClient, .code yX1_takesClient cX1_takesClient 2 (some .boolean), .fieldLink RX1 15 "DefaultFund$Member" "clientCount" "I", .fieldLink RX1 9 "DefaultFund$Member" "clients" "[I", .fieldLink RX1 19 "DefaultFund$Member" "clientLots" "I", .methodLink RX1 53 yX1_freeRoom, .instanceMethod yX1_freeRoom, .selects RX1 yX1_freeRoom yX1_freeRoom, .code yX1_freeRoom cX1_freeRoom 1 (some .int), .fieldLink RX1 31 "DefaultFund$Member" "room" "I"] ++ wsX30 ++ wsX10)
def wsX3_moveClients_r1 : List Cond := [Cond.methodLink RX3 198 yX3_findsHost, Cond.instanceMethod yX3_findsHost, Cond.selects RX3 yX3_findsHost yX3_findsHost, Cond.initialized RX3, Cond.code yX3_findsHost cX3_findsHost 3 (some .boolean), Cond.fieldLink RX3 29 "DefaultFund" "count" "I", Cond.fieldLink RX3 11 "DefaultFund" "members" "[LDefaultFund$Member;", Cond.instanceMethod yX1_isActive, Cond.initialized RX1, Cond.selects RX1 yX1_isActive yX1_isActive, Cond.code yX1_isActive cX1_isActive 1 (some .boolean), Cond.fieldLink RX1 22 "DefaultFund$Member" "state" "I", Cond.instanceMethod yX1_takesClient, Cond.selects RX1 yX1_takesClient yX1_takesClient, Cond.code yX1_takesClient cX1_takesClient 2 (some .boolean), Cond.fieldLink RX1 15 "DefaultFund$Member" "clientCount" "I", Cond.fieldLink RX1 9 "DefaultFund$Member" "clients" "[I", Cond.fieldLink RX1 19 "DefaultFund$Member" "clientLots" "I", Cond.methodLink RX1 53 yX1_freeRoom, Cond.instanceMethod yX1_freeRoom, Cond.selects RX1 yX1_freeRoom yX1_freeRoom, Cond.code yX1_freeRoom cX1_freeRoom 1 (some .int), Cond.fieldLink RX1 31 "DefaultFund$Member" "room" "I", Cond.instanceMethod yX1_dropClients]
def wsX3_moveClients_r2 : List Cond := [Cond.selects RX1 yX1_dropClients yX1_dropClients, Cond.code yX1_dropClients cX1_dropClients 1 none]
def wsX3_moveClients : List Cond := .code yX3_moveClients cX3_moveClients 5 (some .int) :: ((wsX3_moveClients_r1 ++ wsX3_moveClients_r2) ++ wsX10 ++ wsX30)
def wsX3_fail_r1 : List Cond := [Cond.fieldLink RX3 29 "DefaultFund" "count" "I", Cond.fieldLink RX3 11 "DefaultFund" "members" "[LDefaultFund$Member;", Cond.fieldLink RX3 42 "DefaultFund" "failing" "I", Cond.fieldLink RX3 18 "DefaultFund" "auction" "LDefaultFund$Auction;", Cond.methodLink RX3 61 yX3_existing, Cond.instanceMethod yX3_existing, Cond.selects RX3 yX3_existing yX3_existing, Cond.initialized RX3, Cond.code yX3_existing cX3_existing 2 (some (.object "DefaultFund$Member")), Cond.classLink RX3 133 "java/lang/IndexOutOfBoundsException", Cond.initialized "java/lang/IndexOutOfBoundsException", Cond.methodLink RX3 47 yX3_requireBetween, Cond.static yX3_requireBetween, Cond.code yX3_requireBetween cX3_requireBetween 3 none, Cond.classLink RX3 179 "java/lang/IllegalArgumentException", Cond.initialized "java/lang/IllegalArgumentException", Cond.methodLink RX3 65 yX3_requireActive, Cond.static yX3_requireActive, Cond.code yX3_requireActive cX3_requireActive 1 none, Cond.classLink RX3 51 "java/lang/IllegalStateException", Cond.initialized "java/lang/IllegalStateException", Cond.instanceMethod yX1_isActive, Cond.initialized RX1, Cond.selects RX1 yX1_isActive yX1_isActive]
def wsX3_fail_r2 : List Cond := [Cond.code yX1_isActive cX1_isActive 1 (some .boolean), Cond.fieldLink RX1 22 "DefaultFund$Member" "state" "I", Cond.methodLink RX3 90 yX3_requireNoFailure, Cond.instanceMethod yX3_requireNoFailure, Cond.selects RX3 yX3_requireNoFailure yX3_requireNoFailure, Cond.code yX3_requireNoFailure cX3_requireNoFailure 1 none, Cond.methodLink RX3 122 yX3_moveClients, Cond.instanceMethod yX3_moveClients, Cond.selects RX3 yX3_moveClients yX3_moveClients, Cond.code yX3_moveClients cX3_moveClients 5 (some .int), Cond.methodLink RX3 198 yX3_findsHost, Cond.instanceMethod yX3_findsHost, Cond.selects RX3 yX3_findsHost yX3_findsHost, Cond.code yX3_findsHost cX3_findsHost 3 (some .boolean), Cond.instanceMethod yX1_takesClient, Cond.selects RX1 yX1_takesClient yX1_takesClient, Cond.code yX1_takesClient cX1_takesClient 2 (some .boolean), Cond.fieldLink RX1 15 "DefaultFund$Member" "clientCount" "I", Cond.fieldLink RX1 9 "DefaultFund$Member" "clients" "[I", Cond.fieldLink RX1 19 "DefaultFund$Member" "clientLots" "I", Cond.methodLink RX1 53 yX1_freeRoom, Cond.instanceMethod yX1_freeRoom, Cond.selects RX1 yX1_freeRoom yX1_freeRoom, Cond.code yX1_freeRoom cX1_freeRoom 1 (some .int)]
def wsX3_fail_r3 : List Cond := [Cond.fieldLink RX1 31 "DefaultFund$Member" "room" "I", Cond.instanceMethod yX1_dropClients, Cond.selects RX1 yX1_dropClients yX1_dropClients, Cond.code yX1_dropClients cX1_dropClients 1 none, Cond.instanceMethod yX0_open, Cond.initialized RX0, Cond.selects RX0 yX0_open yX0_open, Cond.code yX0_open cX0_open 4 none, Cond.methodLink RX0 20 Lib.Math.min.name, Cond.static Lib.Math.min.name, Cond.initialized "java/lang/Math", Cond.code Lib.Math.min.name Lib.Math.min.code 2 (some .int), Cond.fieldLink RX0 16 "DefaultFund$Auction" "lots" "I", Cond.fieldLink RX0 11 "DefaultFund$Auction" "bids" "[[I"]
def wsX3_fail : List Cond := .code yX3_fail cX3_fail 5 (some .int) :: ((wsX3_fail_r1 ++ (wsX3_fail_r2 ++ wsX3_fail_r3)) ++ wsX30 ++ wsX10 ++ wsX00 ++ (vx_atS RX3 137 "java/lang/IndexOutOfBoundsException" ["java/lang/RuntimeException", "java/lang/Exception"]).filter goodWord ++ (vx_atS RX3 183 "java/lang/IllegalArgumentException" ["java/lang/RuntimeException", "java/lang/Exception"]).filter goodWord ++ (vx_atS RX3 55 "java/lang/IllegalStateException" ["java/lang/RuntimeException", "java/lang/Exception"]).filter goodWord)
def wsX3_bid_r1 : List Cond := [Cond.classLink RX3 133 "java/lang/IndexOutOfBoundsException", Cond.initialized "java/lang/IndexOutOfBoundsException", Cond.classLink RX3 51 "java/lang/IllegalStateException", Cond.initialized "java/lang/IllegalStateException", Cond.fieldLink RX3 42 "DefaultFund" "failing" "I", Cond.fieldLink RX3 18 "DefaultFund" "auction" "LDefaultFund$Auction;", Cond.methodLink RX3 61 yX3_existing, Cond.instanceMethod yX3_existing, Cond.selects RX3 yX3_existing yX3_existing, Cond.initialized RX3, Cond.code yX3_existing cX3_existing 2 (some (.object "DefaultFund$Member")), Cond.fieldLink RX3 29 "DefaultFund" "count" "I", Cond.fieldLink RX3 11 "DefaultFund" "members" "[LDefaultFund$Member;", Cond.instanceMethod yX0_hasLot, Cond.initialized RX0, Cond.selects RX0 yX0_hasLot yX0_hasLot, Cond.code yX0_hasLot cX0_hasLot 2 (some .boolean), Cond.fieldLink RX0 16 "DefaultFund$Auction" "lots" "I", Cond.methodLink RX3 47 yX3_requireBetween, Cond.static yX3_requireBetween, Cond.code yX3_requireBetween cX3_requireBetween 3 none, Cond.classLink RX3 179 "java/lang/IllegalArgumentException", Cond.initialized "java/lang/IllegalArgumentException", Cond.methodLink RX3 65 yX3_requireActive]
def wsX3_bid_r2 : List Cond := [Cond.static yX3_requireActive, Cond.code yX3_requireActive cX3_requireActive 1 none, Cond.instanceMethod yX1_isActive, Cond.initialized RX1, Cond.selects RX1 yX1_isActive yX1_isActive, Cond.code yX1_isActive cX1_isActive 1 (some .boolean), Cond.fieldLink RX1 22 "DefaultFund$Member" "state" "I", Cond.instanceMethod yX0_bidOf, Cond.selects RX0 yX0_bidOf yX0_bidOf, Cond.code yX0_bidOf cX0_bidOf 3 (some .int), Cond.fieldLink RX0 11 "DefaultFund$Auction" "bids" "[[I", Cond.instanceMethod yX0_enter, Cond.selects RX0 yX0_enter yX0_enter, Cond.code yX0_enter cX0_enter 4 none]
def wsX3_bid : List Cond := .code yX3_bid cX3_bid 5 none :: ((wsX3_bid_r1 ++ wsX3_bid_r2) ++ wsX30 ++ wsX00 ++ wsX10 ++ (vx_atS RX3 137 "java/lang/IndexOutOfBoundsException" ["java/lang/RuntimeException", "java/lang/Exception"]).filter goodWord ++ (vx_atS RX3 55 "java/lang/IllegalStateException" ["java/lang/RuntimeException", "java/lang/Exception"]).filter goodWord ++ (vx_atS RX3 183 "java/lang/IllegalArgumentException" ["java/lang/RuntimeException", "java/lang/Exception"]).filter goodWord)
def wsX3_awardLots : List Cond := .code yX3_awardLots cX3_awardLots 4 (some .int) :: ([.fieldLink RX3 18 "DefaultFund" "auction" "LDefaultFund$Auction;", .fieldLink RX3 11 "DefaultFund" "members" "[LDefaultFund$Member;", .instanceMethod yX0_winnerOf, .initialized RX0, .selects RX0 yX0_winnerOf yX0_winnerOf, .code yX0_winnerOf cX0_winnerOf 5 (some .int), .fieldLink RX0 11 "DefaultFund$Auction" "bids" "[[I", .instanceMethod yX0_bidOf, .selects RX0 yX0_bidOf yX0_bidOf, .code yX0_bidOf cX0_bidOf 3 (some .int)] ++ wsX30 ++ wsX00 ++ wsX10)
def wsX3_rankBidders : List Cond := .code yX3_rankBidders cX3_rankBidders 2 none :: ([.fieldLink RX3 29 "DefaultFund" "count" "I", .fieldLink RX3 11 "DefaultFund" "members" "[LDefaultFund$Member;", .fieldLink RX3 18 "DefaultFund" "auction" "LDefaultFund$Auction;", .instanceMethod yX1_isActive, .initialized RX1, .selects RX1 yX1_isActive yX1_isActive, .code yX1_isActive cX1_isActive 1 (some .boolean), .fieldLink RX1 22 "DefaultFund$Member" "state" "I", .instanceMethod yX0_bidPoorly, .initialized RX0, .selects RX0 yX0_bidPoorly yX0_bidPoorly, .code yX0_bidPoorly cX0_bidPoorly 5 (some .boolean), .fieldLink RX0 16 "DefaultFund$Auction" "lots" "I", .fieldLink RX0 11 "DefaultFund$Auction" "bids" "[[I", .methodLink RX0 26 yX0_isLow, .instanceMethod yX0_isLow, .selects RX0 yX0_isLow yX0_isLow, .code yX0_isLow cX0_isLow 4 (some .boolean), .methodLink RX0 30 yX0_winnerOf, .instanceMethod yX0_winnerOf, .selects RX0 yX0_winnerOf yX0_winnerOf, .code yX0_winnerOf cX0_winnerOf 5 (some .int)] ++ wsX30 ++ wsX10 ++ wsX00)
def wsX3_eatShares_r1 : List Cond := [Cond.fieldLink RX3 29 "DefaultFund" "count" "I", Cond.fieldLink RX3 11 "DefaultFund" "members" "[LDefaultFund$Member;", Cond.fieldLink RX3 25 "DefaultFund" "parting" "LDefaultFund$Parting;", Cond.instanceMethod yX1_isActive, Cond.initialized RX1, Cond.selects RX1 yX1_isActive yX1_isActive, Cond.code yX1_isActive cX1_isActive 1 (some .boolean), Cond.fieldLink RX1 22 "DefaultFund$Member" "state" "I", Cond.instanceMethod yX2_enter, Cond.initialized RX2, Cond.selects RX2 yX2_enter yX2_enter, Cond.code yX2_enter cX2_enter 4 none, Cond.fieldLink RX2 9 "DefaultFund$Parting" "weights" "[I", Cond.fieldLink RX2 15 "DefaultFund$Parting" "bounds" "[I", Cond.instanceMethod yX2_part, Cond.selects RX2 yX2_part yX2_part, Cond.code yX2_part cX2_part 6 (some .int), Cond.fieldLink RX2 18 "DefaultFund$Parting" "parts" "[I", Cond.methodLink RX2 21 Lib.Math.min.name, Cond.static Lib.Math.min.name, Cond.initialized "java/lang/Math", Cond.code Lib.Math.min.name Lib.Math.min.code 2 (some .int), Cond.methodLink RX2 27 yX2_giveCoins, Cond.instanceMethod yX2_giveCoins]
def wsX3_eatShares_r2 : List Cond := [Cond.selects RX2 yX2_giveCoins yX2_giveCoins, Cond.code yX2_giveCoins cX2_giveCoins 6 (some .int), Cond.methodLink RX2 31 yX2_roundsAtAStroke, Cond.instanceMethod yX2_roundsAtAStroke, Cond.selects RX2 yX2_roundsAtAStroke yX2_roundsAtAStroke, Cond.code yX2_roundsAtAStroke cX2_roundsAtAStroke 5 (some .int), Cond.methodLink RX2 38 Lib.Math.max.name, Cond.static Lib.Math.max.name, Cond.code Lib.Math.max.name Lib.Math.max.code 2 (some .int), Cond.methodLink RX2 34 yX2_canTake, Cond.instanceMethod yX2_canTake, Cond.selects RX2 yX2_canTake yX2_canTake, Cond.code yX2_canTake cX2_canTake 2 (some .boolean), Cond.instanceMethod yX2_partOf, Cond.selects RX2 yX2_partOf yX2_partOf, Cond.code yX2_partOf cX2_partOf 2 (some .int)]
def wsX3_eatShares : List Cond := .code yX3_eatShares cX3_eatShares 6 (some .int) :: ((wsX3_eatShares_r1 ++ wsX3_eatShares_r2) ++ wsX30 ++ wsX10 ++ wsX20)
def wsX3_eatAssessments_r1 : List Cond := [Cond.fieldLink RX3 29 "DefaultFund" "count" "I", Cond.fieldLink RX3 11 "DefaultFund" "members" "[LDefaultFund$Member;", Cond.fieldLink RX3 25 "DefaultFund" "parting" "LDefaultFund$Parting;", Cond.instanceMethod yX1_isActive, Cond.initialized RX1, Cond.selects RX1 yX1_isActive yX1_isActive, Cond.code yX1_isActive cX1_isActive 1 (some .boolean), Cond.fieldLink RX1 22 "DefaultFund$Member" "state" "I", Cond.instanceMethod yX2_enter, Cond.initialized RX2, Cond.selects RX2 yX2_enter yX2_enter, Cond.code yX2_enter cX2_enter 4 none, Cond.fieldLink RX2 9 "DefaultFund$Parting" "weights" "[I", Cond.fieldLink RX2 15 "DefaultFund$Parting" "bounds" "[I", Cond.instanceMethod yX2_part, Cond.selects RX2 yX2_part yX2_part, Cond.code yX2_part cX2_part 6 (some .int), Cond.fieldLink RX2 18 "DefaultFund$Parting" "parts" "[I", Cond.methodLink RX2 21 Lib.Math.min.name, Cond.static Lib.Math.min.name, Cond.initialized "java/lang/Math", Cond.code Lib.Math.min.name Lib.Math.min.code 2 (some .int), Cond.methodLink RX2 27 yX2_giveCoins, Cond.instanceMethod yX2_giveCoins]
def wsX3_eatAssessments_r2 : List Cond := [Cond.selects RX2 yX2_giveCoins yX2_giveCoins, Cond.code yX2_giveCoins cX2_giveCoins 6 (some .int), Cond.methodLink RX2 31 yX2_roundsAtAStroke, Cond.instanceMethod yX2_roundsAtAStroke, Cond.selects RX2 yX2_roundsAtAStroke yX2_roundsAtAStroke, Cond.code yX2_roundsAtAStroke cX2_roundsAtAStroke 5 (some .int), Cond.methodLink RX2 38 Lib.Math.max.name, Cond.static Lib.Math.max.name, Cond.code Lib.Math.max.name Lib.Math.max.code 2 (some .int), Cond.methodLink RX2 34 yX2_canTake, Cond.instanceMethod yX2_canTake, Cond.selects RX2 yX2_canTake yX2_canTake, Cond.code yX2_canTake cX2_canTake 2 (some .boolean), Cond.instanceMethod yX2_partOf, Cond.selects RX2 yX2_partOf yX2_partOf, Cond.code yX2_partOf cX2_partOf 2 (some .int)]
def wsX3_eatAssessments : List Cond := .code yX3_eatAssessments cX3_eatAssessments 5 (some .int) :: ((wsX3_eatAssessments_r1 ++ wsX3_eatAssessments_r2) ++ wsX30 ++ wsX10 ++ wsX20)
def wsX3_eatGains_r1 : List Cond := [Cond.fieldLink RX3 29 "DefaultFund" "count" "I", Cond.fieldLink RX3 11 "DefaultFund" "members" "[LDefaultFund$Member;", Cond.fieldLink RX3 25 "DefaultFund" "parting" "LDefaultFund$Parting;", Cond.instanceMethod yX1_isActive, Cond.initialized RX1, Cond.selects RX1 yX1_isActive yX1_isActive, Cond.code yX1_isActive cX1_isActive 1 (some .boolean), Cond.fieldLink RX1 22 "DefaultFund$Member" "state" "I", Cond.instanceMethod yX2_enter, Cond.initialized RX2, Cond.selects RX2 yX2_enter yX2_enter, Cond.code yX2_enter cX2_enter 4 none, Cond.fieldLink RX2 9 "DefaultFund$Parting" "weights" "[I", Cond.fieldLink RX2 15 "DefaultFund$Parting" "bounds" "[I", Cond.instanceMethod yX2_part, Cond.selects RX2 yX2_part yX2_part, Cond.code yX2_part cX2_part 6 (some .int), Cond.fieldLink RX2 18 "DefaultFund$Parting" "parts" "[I", Cond.methodLink RX2 21 Lib.Math.min.name, Cond.static Lib.Math.min.name, Cond.initialized "java/lang/Math", Cond.code Lib.Math.min.name Lib.Math.min.code 2 (some .int), Cond.methodLink RX2 27 yX2_giveCoins, Cond.instanceMethod yX2_giveCoins]
def wsX3_eatGains_r2 : List Cond := [Cond.selects RX2 yX2_giveCoins yX2_giveCoins, Cond.code yX2_giveCoins cX2_giveCoins 6 (some .int), Cond.methodLink RX2 31 yX2_roundsAtAStroke, Cond.instanceMethod yX2_roundsAtAStroke, Cond.selects RX2 yX2_roundsAtAStroke yX2_roundsAtAStroke, Cond.code yX2_roundsAtAStroke cX2_roundsAtAStroke 5 (some .int), Cond.methodLink RX2 38 Lib.Math.max.name, Cond.static Lib.Math.max.name, Cond.code Lib.Math.max.name Lib.Math.max.code 2 (some .int), Cond.methodLink RX2 34 yX2_canTake, Cond.instanceMethod yX2_canTake, Cond.selects RX2 yX2_canTake yX2_canTake, Cond.code yX2_canTake cX2_canTake 2 (some .boolean), Cond.instanceMethod yX2_partOf, Cond.selects RX2 yX2_partOf yX2_partOf, Cond.code yX2_partOf cX2_partOf 2 (some .int)]
def wsX3_eatGains : List Cond := .code yX3_eatGains cX3_eatGains 4 (some .int) :: ((wsX3_eatGains_r1 ++ wsX3_eatGains_r2) ++ wsX30 ++ wsX10 ++ wsX20)
def wsX3_eatLoss_r1 : List Cond := [Cond.fieldLink RX3 36 "DefaultFund" "loss" "I", Cond.methodLink RX3 188 Lib.Math.min.name, Cond.static Lib.Math.min.name, Cond.initialized "java/lang/Math", Cond.code Lib.Math.min.name Lib.Math.min.code 2 (some .int), Cond.fieldLink RX3 33 "DefaultFund" "capital" "I", Cond.methodLink RX3 216 yX3_eatShares, Cond.instanceMethod yX3_eatShares, Cond.selects RX3 yX3_eatShares yX3_eatShares, Cond.initialized RX3, Cond.code yX3_eatShares cX3_eatShares 6 (some .int), Cond.fieldLink RX3 29 "DefaultFund" "count" "I", Cond.fieldLink RX3 11 "DefaultFund" "members" "[LDefaultFund$Member;", Cond.fieldLink RX3 25 "DefaultFund" "parting" "LDefaultFund$Parting;", Cond.instanceMethod yX1_isActive, Cond.initialized RX1, Cond.selects RX1 yX1_isActive yX1_isActive, Cond.code yX1_isActive cX1_isActive 1 (some .boolean), Cond.fieldLink RX1 22 "DefaultFund$Member" "state" "I", Cond.instanceMethod yX2_enter, Cond.initialized RX2, Cond.selects RX2 yX2_enter yX2_enter, Cond.code yX2_enter cX2_enter 4 none, Cond.fieldLink RX2 9 "DefaultFund$Parting" "weights" "[I"]
def wsX3_eatLoss_r2 : List Cond := [Cond.fieldLink RX2 15 "DefaultFund$Parting" "bounds" "[I", Cond.instanceMethod yX2_part, Cond.selects RX2 yX2_part yX2_part, Cond.code yX2_part cX2_part 6 (some .int), Cond.fieldLink RX2 18 "DefaultFund$Parting" "parts" "[I", Cond.methodLink RX2 21 Lib.Math.min.name, Cond.methodLink RX2 27 yX2_giveCoins, Cond.instanceMethod yX2_giveCoins, Cond.selects RX2 yX2_giveCoins yX2_giveCoins, Cond.code yX2_giveCoins cX2_giveCoins 6 (some .int), Cond.methodLink RX2 31 yX2_roundsAtAStroke, Cond.instanceMethod yX2_roundsAtAStroke, Cond.selects RX2 yX2_roundsAtAStroke yX2_roundsAtAStroke, Cond.code yX2_roundsAtAStroke cX2_roundsAtAStroke 5 (some .int), Cond.methodLink RX2 38 Lib.Math.max.name, Cond.static Lib.Math.max.name, Cond.code Lib.Math.max.name Lib.Math.max.code 2 (some .int), Cond.methodLink RX2 34 yX2_canTake, Cond.instanceMethod yX2_canTake, Cond.selects RX2 yX2_canTake yX2_canTake, Cond.code yX2_canTake cX2_canTake 2 (some .boolean), Cond.instanceMethod yX2_partOf, Cond.selects RX2 yX2_partOf yX2_partOf, Cond.code yX2_partOf cX2_partOf 2 (some .int)]
def wsX3_eatLoss_r3 : List Cond := [Cond.methodLink RX3 220 yX3_eatAssessments, Cond.instanceMethod yX3_eatAssessments, Cond.selects RX3 yX3_eatAssessments yX3_eatAssessments, Cond.code yX3_eatAssessments cX3_eatAssessments 5 (some .int), Cond.methodLink RX3 223 yX3_eatGains, Cond.instanceMethod yX3_eatGains, Cond.selects RX3 yX3_eatGains yX3_eatGains, Cond.code yX3_eatGains cX3_eatGains 4 (some .int)]
def wsX3_eatLoss : List Cond := .code yX3_eatLoss cX3_eatLoss 4 (some .int) :: ((wsX3_eatLoss_r1 ++ (wsX3_eatLoss_r2 ++ wsX3_eatLoss_r3)) ++ wsX30 ++ wsX10 ++ wsX20)
def wsX3_endFailure : List Cond := .code yX3_endFailure cX3_endFailure 3 none :: ([.fieldLink RX3 29 "DefaultFund" "count" "I", .fieldLink RX3 11 "DefaultFund" "members" "[LDefaultFund$Member;", .fieldLink RX3 42 "DefaultFund" "failing" "I", .instanceMethod yX1_loseAll, .initialized RX1, .selects RX1 yX1_loseAll yX1_loseAll, .code yX1_loseAll cX1_loseAll 1 none, .fieldLink RX1 25 "DefaultFund$Member" "margin" "I", .fieldLink RX1 28 "DefaultFund$Member" "share" "I", .fieldLink RX1 34 "DefaultFund$Member" "gain" "I", .methodLink RX1 63 yX1_dropClients, .instanceMethod yX1_dropClients, .selects RX1 yX1_dropClients yX1_dropClients, .code yX1_dropClients cX1_dropClients 1 none, .fieldLink RX1 15 "DefaultFund$Member" "clientCount" "I", .fieldLink RX1 19 "DefaultFund$Member" "clientLots" "I"] ++ wsX30 ++ wsX10)
def wsX3_close_r1 : List Cond := [Cond.classLink RX3 51 "java/lang/IllegalStateException", Cond.initialized "java/lang/IllegalStateException", Cond.fieldLink RX3 42 "DefaultFund" "failing" "I", Cond.methodLink RX3 150 Lib.Math.max.name, Cond.static Lib.Math.max.name, Cond.initialized "java/lang/Math", Cond.code Lib.Math.max.name Lib.Math.max.code 2 (some .int), Cond.fieldLink RX3 36 "DefaultFund" "loss" "I", Cond.fieldLink RX3 11 "DefaultFund" "members" "[LDefaultFund$Member;", Cond.fieldLink RX3 39 "DefaultFund" "uncovered" "I", Cond.methodLink RX3 147 yX3_awardLots, Cond.instanceMethod yX3_awardLots, Cond.selects RX3 yX3_awardLots yX3_awardLots, Cond.initialized RX3, Cond.code yX3_awardLots cX3_awardLots 4 (some .int), Cond.fieldLink RX3 18 "DefaultFund" "auction" "LDefaultFund$Auction;", Cond.instanceMethod yX0_winnerOf, Cond.initialized RX0, Cond.selects RX0 yX0_winnerOf yX0_winnerOf, Cond.code yX0_winnerOf cX0_winnerOf 5 (some .int), Cond.fieldLink RX0 11 "DefaultFund$Auction" "bids" "[[I", Cond.instanceMethod yX0_bidOf, Cond.selects RX0 yX0_bidOf yX0_bidOf, Cond.code yX0_bidOf cX0_bidOf 3 (some .int)]
def wsX3_close_r2 : List Cond := [Cond.methodLink RX3 155 yX3_rankBidders, Cond.instanceMethod yX3_rankBidders, Cond.selects RX3 yX3_rankBidders yX3_rankBidders, Cond.code yX3_rankBidders cX3_rankBidders 2 none, Cond.fieldLink RX3 29 "DefaultFund" "count" "I", Cond.instanceMethod yX1_isActive, Cond.initialized RX1, Cond.selects RX1 yX1_isActive yX1_isActive, Cond.code yX1_isActive cX1_isActive 1 (some .boolean), Cond.fieldLink RX1 22 "DefaultFund$Member" "state" "I", Cond.instanceMethod yX0_bidPoorly, Cond.selects RX0 yX0_bidPoorly yX0_bidPoorly, Cond.code yX0_bidPoorly cX0_bidPoorly 5 (some .boolean), Cond.fieldLink RX0 16 "DefaultFund$Auction" "lots" "I", Cond.methodLink RX0 26 yX0_isLow, Cond.instanceMethod yX0_isLow, Cond.selects RX0 yX0_isLow yX0_isLow, Cond.code yX0_isLow cX0_isLow 4 (some .boolean), Cond.methodLink RX0 30 yX0_winnerOf, Cond.methodLink RX3 158 yX3_eatLoss, Cond.instanceMethod yX3_eatLoss, Cond.selects RX3 yX3_eatLoss yX3_eatLoss, Cond.code yX3_eatLoss cX3_eatLoss 4 (some .int), Cond.methodLink RX3 188 Lib.Math.min.name]
def wsX3_close_r3 : List Cond := [Cond.static Lib.Math.min.name, Cond.code Lib.Math.min.name Lib.Math.min.code 2 (some .int), Cond.fieldLink RX3 33 "DefaultFund" "capital" "I", Cond.methodLink RX3 216 yX3_eatShares, Cond.instanceMethod yX3_eatShares, Cond.selects RX3 yX3_eatShares yX3_eatShares, Cond.code yX3_eatShares cX3_eatShares 6 (some .int), Cond.fieldLink RX3 25 "DefaultFund" "parting" "LDefaultFund$Parting;", Cond.instanceMethod yX2_enter, Cond.initialized RX2, Cond.selects RX2 yX2_enter yX2_enter, Cond.code yX2_enter cX2_enter 4 none, Cond.fieldLink RX2 9 "DefaultFund$Parting" "weights" "[I", Cond.fieldLink RX2 15 "DefaultFund$Parting" "bounds" "[I", Cond.instanceMethod yX2_part, Cond.selects RX2 yX2_part yX2_part, Cond.code yX2_part cX2_part 6 (some .int), Cond.fieldLink RX2 18 "DefaultFund$Parting" "parts" "[I", Cond.methodLink RX2 21 Lib.Math.min.name, Cond.methodLink RX2 27 yX2_giveCoins, Cond.instanceMethod yX2_giveCoins, Cond.selects RX2 yX2_giveCoins yX2_giveCoins, Cond.code yX2_giveCoins cX2_giveCoins 6 (some .int), Cond.methodLink RX2 31 yX2_roundsAtAStroke]
def wsX3_close_r4 : List Cond := [Cond.instanceMethod yX2_roundsAtAStroke, Cond.selects RX2 yX2_roundsAtAStroke yX2_roundsAtAStroke, Cond.code yX2_roundsAtAStroke cX2_roundsAtAStroke 5 (some .int), Cond.methodLink RX2 38 Lib.Math.max.name, Cond.methodLink RX2 34 yX2_canTake, Cond.instanceMethod yX2_canTake, Cond.selects RX2 yX2_canTake yX2_canTake, Cond.code yX2_canTake cX2_canTake 2 (some .boolean), Cond.instanceMethod yX2_partOf, Cond.selects RX2 yX2_partOf yX2_partOf, Cond.code yX2_partOf cX2_partOf 2 (some .int), Cond.methodLink RX3 220 yX3_eatAssessments, Cond.instanceMethod yX3_eatAssessments, Cond.selects RX3 yX3_eatAssessments yX3_eatAssessments, Cond.code yX3_eatAssessments cX3_eatAssessments 5 (some .int), Cond.methodLink RX3 223 yX3_eatGains, Cond.instanceMethod yX3_eatGains, Cond.selects RX3 yX3_eatGains yX3_eatGains, Cond.code yX3_eatGains cX3_eatGains 4 (some .int), Cond.methodLink RX3 161 yX3_endFailure, Cond.instanceMethod yX3_endFailure, Cond.selects RX3 yX3_endFailure yX3_endFailure, Cond.code yX3_endFailure cX3_endFailure 3 none, Cond.instanceMethod yX1_loseAll]
def wsX3_close_r5 : List Cond := [Cond.selects RX1 yX1_loseAll yX1_loseAll, Cond.code yX1_loseAll cX1_loseAll 1 none, Cond.fieldLink RX1 25 "DefaultFund$Member" "margin" "I", Cond.fieldLink RX1 28 "DefaultFund$Member" "share" "I", Cond.fieldLink RX1 34 "DefaultFund$Member" "gain" "I", Cond.methodLink RX1 63 yX1_dropClients, Cond.instanceMethod yX1_dropClients, Cond.selects RX1 yX1_dropClients yX1_dropClients, Cond.code yX1_dropClients cX1_dropClients 1 none, Cond.fieldLink RX1 15 "DefaultFund$Member" "clientCount" "I", Cond.fieldLink RX1 19 "DefaultFund$Member" "clientLots" "I"]
def wsX3_close : List Cond := .code yX3_close cX3_close 2 (some .int) :: ((wsX3_close_r1 ++ (wsX3_close_r2 ++ (wsX3_close_r3 ++ (wsX3_close_r4 ++ wsX3_close_r5)))) ++ wsX30 ++ wsX00 ++ wsX10 ++ wsX20 ++ (vx_atS RX3 55 "java/lang/IllegalStateException" ["java/lang/RuntimeException", "java/lang/Exception"]).filter goodWord)
def wsX3_members : List Cond := .code yX3_members cX3_members 1 (some .int) :: ([.fieldLink RX3 29 "DefaultFund" "count" "I"] ++ wsX30)
def wsX3_state : List Cond := .code yX3_state cX3_state 2 (some .int) :: ([.methodLink RX3 61 yX3_existing, .instanceMethod yX3_existing, .selects RX3 yX3_existing yX3_existing, .initialized RX3, .code yX3_existing cX3_existing 2 (some (.object "DefaultFund$Member")), .classLink RX3 133 "java/lang/IndexOutOfBoundsException", .initialized "java/lang/IndexOutOfBoundsException", .fieldLink RX3 29 "DefaultFund" "count" "I", .fieldLink RX3 11 "DefaultFund" "members" "[LDefaultFund$Member;"] ++ wsX10 ++ wsX30 ++ (vx_atS RX3 137 "java/lang/IndexOutOfBoundsException" ["java/lang/RuntimeException", "java/lang/Exception"]).filter goodWord)
def wsX3_margin : List Cond := .code yX3_margin cX3_margin 2 (some .int) :: ([.methodLink RX3 61 yX3_existing, .instanceMethod yX3_existing, .selects RX3 yX3_existing yX3_existing, .initialized RX3, .code yX3_existing cX3_existing 2 (some (.object "DefaultFund$Member")), .classLink RX3 133 "java/lang/IndexOutOfBoundsException", .initialized "java/lang/IndexOutOfBoundsException", .fieldLink RX3 29 "DefaultFund" "count" "I", .fieldLink RX3 11 "DefaultFund" "members" "[LDefaultFund$Member;"] ++ wsX10 ++ wsX30 ++ (vx_atS RX3 137 "java/lang/IndexOutOfBoundsException" ["java/lang/RuntimeException", "java/lang/Exception"]).filter goodWord)
def wsX3_share : List Cond := .code yX3_share cX3_share 2 (some .int) :: ([.methodLink RX3 61 yX3_existing, .instanceMethod yX3_existing, .selects RX3 yX3_existing yX3_existing, .initialized RX3, .code yX3_existing cX3_existing 2 (some (.object "DefaultFund$Member")), .classLink RX3 133 "java/lang/IndexOutOfBoundsException", .initialized "java/lang/IndexOutOfBoundsException", .fieldLink RX3 29 "DefaultFund" "count" "I", .fieldLink RX3 11 "DefaultFund" "members" "[LDefaultFund$Member;"] ++ wsX10 ++ wsX30 ++ (vx_atS RX3 137 "java/lang/IndexOutOfBoundsException" ["java/lang/RuntimeException", "java/lang/Exception"]).filter goodWord)
def wsX3_gain : List Cond := .code yX3_gain cX3_gain 2 (some .int) :: ([.methodLink RX3 61 yX3_existing, .instanceMethod yX3_existing, .selects RX3 yX3_existing yX3_existing, .initialized RX3, .code yX3_existing cX3_existing 2 (some (.object "DefaultFund$Member")), .classLink RX3 133 "java/lang/IndexOutOfBoundsException", .initialized "java/lang/IndexOutOfBoundsException", .fieldLink RX3 29 "DefaultFund" "count" "I", .fieldLink RX3 11 "DefaultFund" "members" "[LDefaultFund$Member;"] ++ wsX10 ++ wsX30 ++ (vx_atS RX3 137 "java/lang/IndexOutOfBoundsException" ["java/lang/RuntimeException", "java/lang/Exception"]).filter goodWord)
def wsX3_isJunior : List Cond := .code yX3_isJunior cX3_isJunior 2 (some .boolean) :: ([.methodLink RX3 61 yX3_existing, .instanceMethod yX3_existing, .selects RX3 yX3_existing yX3_existing, .initialized RX3, .code yX3_existing cX3_existing 2 (some (.object "DefaultFund$Member")), .classLink RX3 133 "java/lang/IndexOutOfBoundsException", .initialized "java/lang/IndexOutOfBoundsException", .fieldLink RX3 29 "DefaultFund" "count" "I", .fieldLink RX3 11 "DefaultFund" "members" "[LDefaultFund$Member;"] ++ wsX10 ++ wsX30 ++ (vx_atS RX3 137 "java/lang/IndexOutOfBoundsException" ["java/lang/RuntimeException", "java/lang/Exception"]).filter goodWord)
def wsX3_assessed : List Cond := .code yX3_assessed cX3_assessed 2 (some .int) :: ([.methodLink RX3 61 yX3_existing, .instanceMethod yX3_existing, .selects RX3 yX3_existing yX3_existing, .initialized RX3, .code yX3_existing cX3_existing 2 (some (.object "DefaultFund$Member")), .classLink RX3 133 "java/lang/IndexOutOfBoundsException", .initialized "java/lang/IndexOutOfBoundsException", .fieldLink RX3 29 "DefaultFund" "count" "I", .fieldLink RX3 11 "DefaultFund" "members" "[LDefaultFund$Member;"] ++ wsX10 ++ wsX30 ++ (vx_atS RX3 137 "java/lang/IndexOutOfBoundsException" ["java/lang/RuntimeException", "java/lang/Exception"]).filter goodWord)
def wsX3_clientLots : List Cond := .code yX3_clientLots cX3_clientLots 2 (some .int) :: ([.methodLink RX3 61 yX3_existing, .instanceMethod yX3_existing, .selects RX3 yX3_existing yX3_existing, .initialized RX3, .code yX3_existing cX3_existing 2 (some (.object "DefaultFund$Member")), .classLink RX3 133 "java/lang/IndexOutOfBoundsException", .initialized "java/lang/IndexOutOfBoundsException", .fieldLink RX3 29 "DefaultFund" "count" "I", .fieldLink RX3 11 "DefaultFund" "members" "[LDefaultFund$Member;"] ++ wsX10 ++ wsX30 ++ (vx_atS RX3 137 "java/lang/IndexOutOfBoundsException" ["java/lang/RuntimeException", "java/lang/Exception"]).filter goodWord)
def wsX3_won : List Cond := .code yX3_won cX3_won 2 (some .int) :: ([.methodLink RX3 61 yX3_existing, .instanceMethod yX3_existing, .selects RX3 yX3_existing yX3_existing, .initialized RX3, .code yX3_existing cX3_existing 2 (some (.object "DefaultFund$Member")), .classLink RX3 133 "java/lang/IndexOutOfBoundsException", .initialized "java/lang/IndexOutOfBoundsException", .fieldLink RX3 29 "DefaultFund" "count" "I", .fieldLink RX3 11 "DefaultFund" "members" "[LDefaultFund$Member;"] ++ wsX10 ++ wsX30 ++ (vx_atS RX3 137 "java/lang/IndexOutOfBoundsException" ["java/lang/RuntimeException", "java/lang/Exception"]).filter goodWord)
def wsX3_capital : List Cond := .code yX3_capital cX3_capital 1 (some .int) :: ([.fieldLink RX3 33 "DefaultFund" "capital" "I"] ++ wsX30)
def wsX3_loss : List Cond := .code yX3_loss cX3_loss 1 (some .int) :: ([.fieldLink RX3 36 "DefaultFund" "loss" "I"] ++ wsX30)
def wsX3_uncovered : List Cond := .code yX3_uncovered cX3_uncovered 1 (some .int) :: ([.fieldLink RX3 39 "DefaultFund" "uncovered" "I"] ++ wsX30)
def wsX3_failing : List Cond := .code yX3_failing cX3_failing 1 (some .int) :: ([.fieldLink RX3 42 "DefaultFund" "failing" "I"] ++ wsX30)
def wsX4_init : List Cond := .code yX4_init cX4_init 1 none :: ([.methodLink RX4 1 objectInit, .instanceMethod objectInit, .code objectInit ⟨#[0xb1]⟩ 1 none, .arrayClass .int, .fieldLink RX4 7 "DefaultFundModel" "margins" "[I", .fieldLink RX4 13 "DefaultFundModel" "sharesOf" "[I", .fieldLink RX4 16 "DefaultFundModel" "rooms" "[I", .fieldLink RX4 19 "DefaultFundModel" "gains" "[I", .fieldLink RX4 22 "DefaultFundModel" "tested" "[I", .fieldLink RX4 25 "DefaultFundModel" "states" "[I", .fieldLink RX4 28 "DefaultFundModel" "juniors" "[I", .fieldLink RX4 31 "DefaultFundModel" "assessedBy" "[I", .fieldLink RX4 34 "DefaultFundModel" "wonBy" "[I", .fieldLink RX4 37 "DefaultFundModel" "owners" "[I", .fieldLink RX4 40 "DefaultFundModel" "lotsOf" "[I", .fieldLink RX4 43 "DefaultFundModel" "cameAt" "[I", .fieldLink RX4 46 "DefaultFundModel" "failed" "I", .fieldLink RX4 50 "DefaultFundModel" "bids" "[I", .fieldLink RX4 53 "DefaultFundModel" "sharesThen" "[I", .fieldLink RX4 56 "DefaultFundModel" "weights" "[I", .fieldLink RX4 59 "DefaultFundModel" "bounds" "[I", .fieldLink RX4 62 "DefaultFundModel" "parts" "[I"] ++ wsX40)
def wsX4_thrown : List Cond := .code yX4_thrown cX4_thrown 1 (some .int) :: ([.fieldLink RX4 65 "DefaultFundModel" "thrown" "I"] ++ wsX40)
def wsX4_fails : List Cond := .code yX4_fails cX4_fails 2 (some .int) :: ([.fieldLink RX4 65 "DefaultFundModel" "thrown" "I"] ++ wsX40)
def wsX4_in : List Cond := .code yX4_in cX4_in 3 (some .boolean) :: ([])
def wsX4_isMember : List Cond := .code yX4_isMember cX4_isMember 2 (some .boolean) :: ([.fieldLink RX4 68 "DefaultFundModel" "many" "I", .methodLink RX4 71 yX4_in, .static yX4_in, .initialized RX4, .code yX4_in cX4_in 3 (some .boolean)] ++ wsX40)
def wsX4_isActive : List Cond := .code yX4_isActive cX4_isActive 2 (some .boolean) :: ([.fieldLink RX4 25 "DefaultFundModel" "states" "[I"] ++ wsX40)
def wsX4_addMember : List Cond := .code yX4_addMember cX4_addMember 4 (some .int) :: ([.fieldLink RX4 65 "DefaultFundModel" "thrown" "I", .constant RX4 75 (1000000), .fieldLink RX4 68 "DefaultFundModel" "many" "I", .fieldLink RX4 7 "DefaultFundModel" "margins" "[I", .fieldLink RX4 13 "DefaultFundModel" "sharesOf" "[I", .fieldLink RX4 16 "DefaultFundModel" "rooms" "[I", .methodLink RX4 71 yX4_in, .static yX4_in, .initialized RX4, .code yX4_in cX4_in 3 (some .boolean), .methodLink RX4 76 yX4_fails, .instanceMethod yX4_fails, .selects RX4 yX4_fails yX4_fails, .code yX4_fails cX4_fails 2 (some .int)] ++ wsX40)
def wsX4_lotsWith : List Cond := .code yX4_lotsWith cX4_lotsWith 4 (some .int) :: ([.fieldLink RX4 80 "DefaultFundModel" "clients" "I", .fieldLink RX4 37 "DefaultFundModel" "owners" "[I", .fieldLink RX4 40 "DefaultFundModel" "lotsOf" "[I"] ++ wsX40)
def wsX4_roomOf : List Cond := .code yX4_roomOf cX4_roomOf 2 (some .int) :: ([.fieldLink RX4 16 "DefaultFundModel" "rooms" "[I", .methodLink RX4 83 yX4_lotsWith, .instanceMethod yX4_lotsWith, .selects RX4 yX4_lotsWith yX4_lotsWith, .initialized RX4, .code yX4_lotsWith cX4_lotsWith 4 (some .int), .fieldLink RX4 80 "DefaultFundModel" "clients" "I", .fieldLink RX4 37 "DefaultFundModel" "owners" "[I", .fieldLink RX4 40 "DefaultFundModel" "lotsOf" "[I"] ++ wsX40)
def wsX4_addClient_r1 : List Cond := [Cond.fieldLink RX4 65 "DefaultFundModel" "thrown" "I", Cond.fieldLink RX4 37 "DefaultFundModel" "owners" "[I", Cond.fieldLink RX4 80 "DefaultFundModel" "clients" "I", Cond.fieldLink RX4 40 "DefaultFundModel" "lotsOf" "[I", Cond.fieldLink RX4 43 "DefaultFundModel" "cameAt" "[I", Cond.fieldLink RX4 96 "DefaultFundModel" "came" "I", Cond.methodLink RX4 86 yX4_isMember, Cond.instanceMethod yX4_isMember, Cond.selects RX4 yX4_isMember yX4_isMember, Cond.initialized RX4, Cond.code yX4_isMember cX4_isMember 2 (some .boolean), Cond.fieldLink RX4 68 "DefaultFundModel" "many" "I", Cond.methodLink RX4 71 yX4_in, Cond.static yX4_in, Cond.code yX4_in cX4_in 3 (some .boolean), Cond.methodLink RX4 76 yX4_fails, Cond.instanceMethod yX4_fails, Cond.selects RX4 yX4_fails yX4_fails, Cond.code yX4_fails cX4_fails 2 (some .int), Cond.methodLink RX4 90 yX4_isActive, Cond.instanceMethod yX4_isActive, Cond.selects RX4 yX4_isActive yX4_isActive, Cond.code yX4_isActive cX4_isActive 2 (some .boolean), Cond.fieldLink RX4 25 "DefaultFundModel" "states" "[I"]
def wsX4_addClient_r2 : List Cond := [Cond.methodLink RX4 93 yX4_roomOf, Cond.instanceMethod yX4_roomOf, Cond.selects RX4 yX4_roomOf yX4_roomOf, Cond.code yX4_roomOf cX4_roomOf 2 (some .int), Cond.fieldLink RX4 16 "DefaultFundModel" "rooms" "[I", Cond.methodLink RX4 83 yX4_lotsWith, Cond.instanceMethod yX4_lotsWith, Cond.selects RX4 yX4_lotsWith yX4_lotsWith, Cond.code yX4_lotsWith cX4_lotsWith 4 (some .int)]
def wsX4_addClient : List Cond := .code yX4_addClient cX4_addClient 3 (some .int) :: ((wsX4_addClient_r1 ++ wsX4_addClient_r2) ++ wsX40)
def wsX4_setGain : List Cond := .code yX4_setGain cX4_setGain 4 (some .int) :: ([.fieldLink RX4 65 "DefaultFundModel" "thrown" "I", .constant RX4 75 (1000000), .fieldLink RX4 19 "DefaultFundModel" "gains" "[I", .methodLink RX4 86 yX4_isMember, .instanceMethod yX4_isMember, .selects RX4 yX4_isMember yX4_isMember, .initialized RX4, .code yX4_isMember cX4_isMember 2 (some .boolean), .fieldLink RX4 68 "DefaultFundModel" "many" "I", .methodLink RX4 71 yX4_in, .static yX4_in, .code yX4_in cX4_in 3 (some .boolean), .methodLink RX4 76 yX4_fails, .instanceMethod yX4_fails, .selects RX4 yX4_fails yX4_fails, .code yX4_fails cX4_fails 2 (some .int), .methodLink RX4 90 yX4_isActive, .instanceMethod yX4_isActive, .selects RX4 yX4_isActive yX4_isActive, .code yX4_isActive cX4_isActive 2 (some .boolean), .fieldLink RX4 25 "DefaultFundModel" "states" "[I"] ++ wsX40)
def wsX4_setTested : List Cond := .code yX4_setTested cX4_setTested 4 (some .int) :: ([.fieldLink RX4 65 "DefaultFundModel" "thrown" "I", .constant RX4 75 (1000000), .fieldLink RX4 22 "DefaultFundModel" "tested" "[I", .methodLink RX4 86 yX4_isMember, .instanceMethod yX4_isMember, .selects RX4 yX4_isMember yX4_isMember, .initialized RX4, .code yX4_isMember cX4_isMember 2 (some .boolean), .fieldLink RX4 68 "DefaultFundModel" "many" "I", .methodLink RX4 71 yX4_in, .static yX4_in, .code yX4_in cX4_in 3 (some .boolean), .methodLink RX4 76 yX4_fails, .instanceMethod yX4_fails, .selects RX4 yX4_fails yX4_fails, .code yX4_fails cX4_fails 2 (some .int), .methodLink RX4 90 yX4_isActive, .instanceMethod yX4_isActive, .selects RX4 yX4_isActive yX4_isActive, .code yX4_isActive cX4_isActive 2 (some .boolean), .fieldLink RX4 25 "DefaultFundModel" "states" "[I"] ++ wsX40)
def wsX4_setCapital : List Cond := .code yX4_setCapital cX4_setCapital 3 (some .int) :: ([.fieldLink RX4 65 "DefaultFundModel" "thrown" "I", .constant RX4 75 (1000000), .fieldLink RX4 99 "DefaultFundModel" "capitalNow" "I", .methodLink RX4 71 yX4_in, .static yX4_in, .initialized RX4, .code yX4_in cX4_in 3 (some .boolean), .methodLink RX4 76 yX4_fails, .instanceMethod yX4_fails, .selects RX4 yX4_fails yX4_fails, .code yX4_fails cX4_fails 2 (some .int)] ++ wsX40)
def wsX4_giveNotice : List Cond := .code yX4_giveNotice cX4_giveNotice 2 none :: ([.fieldLink RX4 65 "DefaultFundModel" "thrown" "I", .fieldLink RX4 25 "DefaultFundModel" "states" "[I", .fieldLink RX4 46 "DefaultFundModel" "failed" "I", .methodLink RX4 86 yX4_isMember, .instanceMethod yX4_isMember, .selects RX4 yX4_isMember yX4_isMember, .initialized RX4, .code yX4_isMember cX4_isMember 2 (some .boolean), .fieldLink RX4 68 "DefaultFundModel" "many" "I", .methodLink RX4 71 yX4_in, .static yX4_in, .code yX4_in cX4_in 3 (some .boolean), .methodLink RX4 76 yX4_fails, .instanceMethod yX4_fails, .selects RX4 yX4_fails yX4_fails, .code yX4_fails cX4_fails 2 (some .int)] ++ wsX40)
def wsX4_part : List Cond := .code yX4_part cX4_part 14 (some .int) :: ([.fieldLink RX4 68 "DefaultFundModel" "many" "I", .fieldLink RX4 56 "DefaultFundModel" "weights" "[I", .fieldLink RX4 59 "DefaultFundModel" "bounds" "[I", .fieldLink RX4 62 "DefaultFundModel" "parts" "[I"] ++ wsX40)
def wsX4_size : List Cond := .code yX4_size cX4_size 6 (some .int) :: ([.fieldLink RX4 65 "DefaultFundModel" "thrown" "I", .fieldLink RX4 46 "DefaultFundModel" "failed" "I", .fieldLink RX4 68 "DefaultFundModel" "many" "I", .fieldLink RX4 22 "DefaultFundModel" "tested" "[I", .fieldLink RX4 56 "DefaultFundModel" "weights" "[I", .fieldLink RX4 7 "DefaultFundModel" "margins" "[I", .fieldLink RX4 59 "DefaultFundModel" "bounds" "[I", .constant RX4 102 (4000000), .fieldLink RX4 62 "DefaultFundModel" "parts" "[I", .fieldLink RX4 13 "DefaultFundModel" "sharesOf" "[I", .methodLink RX4 76 yX4_fails, .instanceMethod yX4_fails, .selects RX4 yX4_fails yX4_fails, .initialized RX4, .code yX4_fails cX4_fails 2 (some .int), .methodLink RX4 90 yX4_isActive, .instanceMethod yX4_isActive, .selects RX4 yX4_isActive yX4_isActive, .code yX4_isActive cX4_isActive 2 (some .boolean), .fieldLink RX4 25 "DefaultFundModel" "states" "[I", .methodLink RX4 103 yX4_part, .instanceMethod yX4_part, .selects RX4 yX4_part yX4_part, .code yX4_part cX4_part 14 (some .int)] ++ wsX40)
def wsX4_newOwner : List Cond := .code yX4_newOwner cX4_newOwner 3 (some .int) :: ([.fieldLink RX4 68 "DefaultFundModel" "many" "I", .methodLink RX4 90 yX4_isActive, .instanceMethod yX4_isActive, .selects RX4 yX4_isActive yX4_isActive, .initialized RX4, .code yX4_isActive cX4_isActive 2 (some .boolean), .fieldLink RX4 25 "DefaultFundModel" "states" "[I", .methodLink RX4 93 yX4_roomOf, .instanceMethod yX4_roomOf, .selects RX4 yX4_roomOf yX4_roomOf, .code yX4_roomOf cX4_roomOf 2 (some .int), .fieldLink RX4 16 "DefaultFundModel" "rooms" "[I", .methodLink RX4 83 yX4_lotsWith, .instanceMethod yX4_lotsWith, .selects RX4 yX4_lotsWith yX4_lotsWith, .code yX4_lotsWith cX4_lotsWith 4 (some .int), .fieldLink RX4 80 "DefaultFundModel" "clients" "I", .fieldLink RX4 37 "DefaultFundModel" "owners" "[I", .fieldLink RX4 40 "DefaultFundModel" "lotsOf" "[I"] ++ wsX40)
def wsX4_firstOf : List Cond := .code yX4_firstOf cX4_firstOf 4 (some .int) :: ([.fieldLink RX4 80 "DefaultFundModel" "clients" "I", .fieldLink RX4 37 "DefaultFundModel" "owners" "[I", .fieldLink RX4 43 "DefaultFundModel" "cameAt" "[I"] ++ wsX40)
def wsX4_fail_r1 : List Cond := [Cond.fieldLink RX4 65 "DefaultFundModel" "thrown" "I", Cond.fieldLink RX4 46 "DefaultFundModel" "failed" "I", Cond.fieldLink RX4 25 "DefaultFundModel" "states" "[I", Cond.fieldLink RX4 107 "DefaultFundModel" "book" "I", Cond.fieldLink RX4 37 "DefaultFundModel" "owners" "[I", Cond.fieldLink RX4 40 "DefaultFundModel" "lotsOf" "[I", Cond.fieldLink RX4 43 "DefaultFundModel" "cameAt" "[I", Cond.fieldLink RX4 96 "DefaultFundModel" "came" "I", Cond.fieldLink RX4 53 "DefaultFundModel" "sharesThen" "[I", Cond.fieldLink RX4 68 "DefaultFundModel" "many" "I", Cond.fieldLink RX4 13 "DefaultFundModel" "sharesOf" "[I", Cond.fieldLink RX4 50 "DefaultFundModel" "bids" "[I", Cond.methodLink RX4 86 yX4_isMember, Cond.instanceMethod yX4_isMember, Cond.selects RX4 yX4_isMember yX4_isMember, Cond.initialized RX4, Cond.code yX4_isMember cX4_isMember 2 (some .boolean), Cond.methodLink RX4 71 yX4_in, Cond.static yX4_in, Cond.code yX4_in cX4_in 3 (some .boolean), Cond.methodLink RX4 76 yX4_fails, Cond.instanceMethod yX4_fails, Cond.selects RX4 yX4_fails yX4_fails, Cond.code yX4_fails cX4_fails 2 (some .int)]
def wsX4_fail_r2 : List Cond := [Cond.methodLink RX4 90 yX4_isActive, Cond.instanceMethod yX4_isActive, Cond.selects RX4 yX4_isActive yX4_isActive, Cond.code yX4_isActive cX4_isActive 2 (some .boolean), Cond.methodLink RX4 110 yX4_firstOf, Cond.instanceMethod yX4_firstOf, Cond.selects RX4 yX4_firstOf yX4_firstOf, Cond.code yX4_firstOf cX4_firstOf 4 (some .int), Cond.fieldLink RX4 80 "DefaultFundModel" "clients" "I", Cond.methodLink RX4 113 yX4_newOwner, Cond.instanceMethod yX4_newOwner, Cond.selects RX4 yX4_newOwner yX4_newOwner, Cond.code yX4_newOwner cX4_newOwner 3 (some .int), Cond.methodLink RX4 93 yX4_roomOf, Cond.instanceMethod yX4_roomOf, Cond.selects RX4 yX4_roomOf yX4_roomOf, Cond.code yX4_roomOf cX4_roomOf 2 (some .int), Cond.fieldLink RX4 16 "DefaultFundModel" "rooms" "[I", Cond.methodLink RX4 83 yX4_lotsWith, Cond.instanceMethod yX4_lotsWith, Cond.selects RX4 yX4_lotsWith yX4_lotsWith, Cond.code yX4_lotsWith cX4_lotsWith 4 (some .int)]
def wsX4_fail : List Cond := .code yX4_fail cX4_fail 5 (some .int) :: ((wsX4_fail_r1 ++ wsX4_fail_r2) ++ wsX40)
def wsX4_bid : List Cond := .code yX4_bid cX4_bid 4 none :: ([.fieldLink RX4 65 "DefaultFundModel" "thrown" "I", .fieldLink RX4 46 "DefaultFundModel" "failed" "I", .fieldLink RX4 107 "DefaultFundModel" "book" "I", .fieldLink RX4 50 "DefaultFundModel" "bids" "[I", .methodLink RX4 86 yX4_isMember, .instanceMethod yX4_isMember, .selects RX4 yX4_isMember yX4_isMember, .initialized RX4, .code yX4_isMember cX4_isMember 2 (some .boolean), .fieldLink RX4 68 "DefaultFundModel" "many" "I", .methodLink RX4 71 yX4_in, .static yX4_in, .code yX4_in cX4_in 3 (some .boolean), .methodLink RX4 76 yX4_fails, .instanceMethod yX4_fails, .selects RX4 yX4_fails yX4_fails, .code yX4_fails cX4_fails 2 (some .int), .methodLink RX4 90 yX4_isActive, .instanceMethod yX4_isActive, .selects RX4 yX4_isActive yX4_isActive, .code yX4_isActive cX4_isActive 2 (some .boolean), .fieldLink RX4 25 "DefaultFundModel" "states" "[I"] ++ wsX40)
def wsX4_winner : List Cond := .code yX4_winner cX4_winner 5 (some .int) :: ([.fieldLink RX4 68 "DefaultFundModel" "many" "I", .fieldLink RX4 50 "DefaultFundModel" "bids" "[I"] ++ wsX40)
def wsX4_rank : List Cond := .code yX4_rank cX4_rank 6 none :: ([.fieldLink RX4 107 "DefaultFundModel" "book" "I", .fieldLink RX4 50 "DefaultFundModel" "bids" "[I", .fieldLink RX4 28 "DefaultFundModel" "juniors" "[I", .methodLink RX4 116 yX4_winner, .instanceMethod yX4_winner, .selects RX4 yX4_winner yX4_winner, .initialized RX4, .code yX4_winner cX4_winner 5 (some .int), .fieldLink RX4 68 "DefaultFundModel" "many" "I"] ++ wsX40)
def wsX4_eatShares : List Cond := .code yX4_eatShares cX4_eatShares 5 (some .int) :: ([.fieldLink RX4 68 "DefaultFundModel" "many" "I", .fieldLink RX4 56 "DefaultFundModel" "weights" "[I", .fieldLink RX4 28 "DefaultFundModel" "juniors" "[I", .fieldLink RX4 13 "DefaultFundModel" "sharesOf" "[I", .fieldLink RX4 59 "DefaultFundModel" "bounds" "[I", .fieldLink RX4 62 "DefaultFundModel" "parts" "[I", .methodLink RX4 90 yX4_isActive, .instanceMethod yX4_isActive, .selects RX4 yX4_isActive yX4_isActive, .initialized RX4, .code yX4_isActive cX4_isActive 2 (some .boolean), .fieldLink RX4 25 "DefaultFundModel" "states" "[I", .methodLink RX4 103 yX4_part, .instanceMethod yX4_part, .selects RX4 yX4_part yX4_part, .code yX4_part cX4_part 14 (some .int)] ++ wsX40)
def wsX4_assess : List Cond := .code yX4_assess cX4_assess 4 (some .int) :: ([.fieldLink RX4 68 "DefaultFundModel" "many" "I", .fieldLink RX4 56 "DefaultFundModel" "weights" "[I", .fieldLink RX4 53 "DefaultFundModel" "sharesThen" "[I", .fieldLink RX4 59 "DefaultFundModel" "bounds" "[I", .fieldLink RX4 25 "DefaultFundModel" "states" "[I", .fieldLink RX4 31 "DefaultFundModel" "assessedBy" "[I", .fieldLink RX4 62 "DefaultFundModel" "parts" "[I", .methodLink RX4 90 yX4_isActive, .instanceMethod yX4_isActive, .selects RX4 yX4_isActive yX4_isActive, .initialized RX4, .code yX4_isActive cX4_isActive 2 (some .boolean), .methodLink RX4 103 yX4_part, .instanceMethod yX4_part, .selects RX4 yX4_part yX4_part, .code yX4_part cX4_part 14 (some .int)] ++ wsX40)
def wsX4_cutGains : List Cond := .code yX4_cutGains cX4_cutGains 4 (some .int) :: ([.fieldLink RX4 68 "DefaultFundModel" "many" "I", .fieldLink RX4 56 "DefaultFundModel" "weights" "[I", .fieldLink RX4 19 "DefaultFundModel" "gains" "[I", .fieldLink RX4 59 "DefaultFundModel" "bounds" "[I", .fieldLink RX4 62 "DefaultFundModel" "parts" "[I", .methodLink RX4 90 yX4_isActive, .instanceMethod yX4_isActive, .selects RX4 yX4_isActive yX4_isActive, .initialized RX4, .code yX4_isActive cX4_isActive 2 (some .boolean), .fieldLink RX4 25 "DefaultFundModel" "states" "[I", .methodLink RX4 103 yX4_part, .instanceMethod yX4_part, .selects RX4 yX4_part yX4_part, .code yX4_part cX4_part 14 (some .int)] ++ wsX40)
def wsX4_empty : List Cond := .code yX4_empty cX4_empty 4 none :: ([.fieldLink RX4 25 "DefaultFundModel" "states" "[I", .fieldLink RX4 7 "DefaultFundModel" "margins" "[I", .fieldLink RX4 13 "DefaultFundModel" "sharesOf" "[I", .fieldLink RX4 19 "DefaultFundModel" "gains" "[I", .fieldLink RX4 80 "DefaultFundModel" "clients" "I", .fieldLink RX4 37 "DefaultFundModel" "owners" "[I"] ++ wsX40)
def wsX4_close_r1 : List Cond := [Cond.fieldLink RX4 65 "DefaultFundModel" "thrown" "I", Cond.fieldLink RX4 46 "DefaultFundModel" "failed" "I", Cond.fieldLink RX4 107 "DefaultFundModel" "book" "I", Cond.fieldLink RX4 50 "DefaultFundModel" "bids" "[I", Cond.fieldLink RX4 34 "DefaultFundModel" "wonBy" "[I", Cond.fieldLink RX4 68 "DefaultFundModel" "many" "I", Cond.fieldLink RX4 123 "DefaultFundModel" "lossNow" "I", Cond.fieldLink RX4 7 "DefaultFundModel" "margins" "[I", Cond.fieldLink RX4 13 "DefaultFundModel" "sharesOf" "[I", Cond.fieldLink RX4 99 "DefaultFundModel" "capitalNow" "I", Cond.fieldLink RX4 136 "DefaultFundModel" "uncoveredNow" "I", Cond.fieldLink RX4 25 "DefaultFundModel" "states" "[I", Cond.methodLink RX4 76 yX4_fails, Cond.instanceMethod yX4_fails, Cond.selects RX4 yX4_fails yX4_fails, Cond.initialized RX4, Cond.code yX4_fails cX4_fails 2 (some .int), Cond.methodLink RX4 116 yX4_winner, Cond.instanceMethod yX4_winner, Cond.selects RX4 yX4_winner yX4_winner, Cond.code yX4_winner cX4_winner 5 (some .int), Cond.methodLink RX4 90 yX4_isActive, Cond.instanceMethod yX4_isActive, Cond.selects RX4 yX4_isActive yX4_isActive]
def wsX4_close_r2 : List Cond := [Cond.code yX4_isActive cX4_isActive 2 (some .boolean), Cond.methodLink RX4 119 yX4_rank, Cond.instanceMethod yX4_rank, Cond.selects RX4 yX4_rank yX4_rank, Cond.code yX4_rank cX4_rank 6 none, Cond.fieldLink RX4 28 "DefaultFundModel" "juniors" "[I", Cond.methodLink RX4 126 yX4_eatShares, Cond.instanceMethod yX4_eatShares, Cond.selects RX4 yX4_eatShares yX4_eatShares, Cond.code yX4_eatShares cX4_eatShares 5 (some .int), Cond.fieldLink RX4 56 "DefaultFundModel" "weights" "[I", Cond.fieldLink RX4 59 "DefaultFundModel" "bounds" "[I", Cond.fieldLink RX4 62 "DefaultFundModel" "parts" "[I", Cond.methodLink RX4 103 yX4_part, Cond.instanceMethod yX4_part, Cond.selects RX4 yX4_part yX4_part, Cond.code yX4_part cX4_part 14 (some .int), Cond.methodLink RX4 130 yX4_assess, Cond.instanceMethod yX4_assess, Cond.selects RX4 yX4_assess yX4_assess, Cond.code yX4_assess cX4_assess 4 (some .int), Cond.fieldLink RX4 53 "DefaultFundModel" "sharesThen" "[I", Cond.fieldLink RX4 31 "DefaultFundModel" "assessedBy" "[I", Cond.methodLink RX4 133 yX4_cutGains]
def wsX4_close_r3 : List Cond := [Cond.instanceMethod yX4_cutGains, Cond.selects RX4 yX4_cutGains yX4_cutGains, Cond.code yX4_cutGains cX4_cutGains 4 (some .int), Cond.fieldLink RX4 19 "DefaultFundModel" "gains" "[I", Cond.methodLink RX4 139 yX4_empty, Cond.instanceMethod yX4_empty, Cond.selects RX4 yX4_empty yX4_empty, Cond.code yX4_empty cX4_empty 4 none, Cond.fieldLink RX4 80 "DefaultFundModel" "clients" "I", Cond.fieldLink RX4 37 "DefaultFundModel" "owners" "[I"]
def wsX4_close : List Cond := .code yX4_close cX4_close 5 (some .int) :: ((wsX4_close_r1 ++ (wsX4_close_r2 ++ wsX4_close_r3)) ++ wsX40)
def wsX4_members : List Cond := .code yX4_members cX4_members 1 (some .int) :: ([.fieldLink RX4 65 "DefaultFundModel" "thrown" "I", .fieldLink RX4 68 "DefaultFundModel" "many" "I"] ++ wsX40)
def wsX4_state : List Cond := .code yX4_state cX4_state 2 (some .int) :: ([.fieldLink RX4 65 "DefaultFundModel" "thrown" "I", .fieldLink RX4 25 "DefaultFundModel" "states" "[I", .methodLink RX4 86 yX4_isMember, .instanceMethod yX4_isMember, .selects RX4 yX4_isMember yX4_isMember, .initialized RX4, .code yX4_isMember cX4_isMember 2 (some .boolean), .fieldLink RX4 68 "DefaultFundModel" "many" "I", .methodLink RX4 71 yX4_in, .static yX4_in, .code yX4_in cX4_in 3 (some .boolean), .methodLink RX4 76 yX4_fails, .instanceMethod yX4_fails, .selects RX4 yX4_fails yX4_fails, .code yX4_fails cX4_fails 2 (some .int)] ++ wsX40)
def wsX4_margin : List Cond := .code yX4_margin cX4_margin 2 (some .int) :: ([.fieldLink RX4 65 "DefaultFundModel" "thrown" "I", .fieldLink RX4 7 "DefaultFundModel" "margins" "[I", .methodLink RX4 86 yX4_isMember, .instanceMethod yX4_isMember, .selects RX4 yX4_isMember yX4_isMember, .initialized RX4, .code yX4_isMember cX4_isMember 2 (some .boolean), .fieldLink RX4 68 "DefaultFundModel" "many" "I", .methodLink RX4 71 yX4_in, .static yX4_in, .code yX4_in cX4_in 3 (some .boolean), .methodLink RX4 76 yX4_fails, .instanceMethod yX4_fails, .selects RX4 yX4_fails yX4_fails, .code yX4_fails cX4_fails 2 (some .int)] ++ wsX40)
def wsX4_share : List Cond := .code yX4_share cX4_share 2 (some .int) :: ([.fieldLink RX4 65 "DefaultFundModel" "thrown" "I", .fieldLink RX4 13 "DefaultFundModel" "sharesOf" "[I", .methodLink RX4 86 yX4_isMember, .instanceMethod yX4_isMember, .selects RX4 yX4_isMember yX4_isMember, .initialized RX4, .code yX4_isMember cX4_isMember 2 (some .boolean), .fieldLink RX4 68 "DefaultFundModel" "many" "I", .methodLink RX4 71 yX4_in, .static yX4_in, .code yX4_in cX4_in 3 (some .boolean), .methodLink RX4 76 yX4_fails, .instanceMethod yX4_fails, .selects RX4 yX4_fails yX4_fails, .code yX4_fails cX4_fails 2 (some .int)] ++ wsX40)
def wsX4_gain : List Cond := .code yX4_gain cX4_gain 2 (some .int) :: ([.fieldLink RX4 65 "DefaultFundModel" "thrown" "I", .fieldLink RX4 19 "DefaultFundModel" "gains" "[I", .methodLink RX4 86 yX4_isMember, .instanceMethod yX4_isMember, .selects RX4 yX4_isMember yX4_isMember, .initialized RX4, .code yX4_isMember cX4_isMember 2 (some .boolean), .fieldLink RX4 68 "DefaultFundModel" "many" "I", .methodLink RX4 71 yX4_in, .static yX4_in, .code yX4_in cX4_in 3 (some .boolean), .methodLink RX4 76 yX4_fails, .instanceMethod yX4_fails, .selects RX4 yX4_fails yX4_fails, .code yX4_fails cX4_fails 2 (some .int)] ++ wsX40)
def wsX4_isJunior : List Cond := .code yX4_isJunior cX4_isJunior 2 (some .boolean) :: ([.fieldLink RX4 65 "DefaultFundModel" "thrown" "I", .fieldLink RX4 28 "DefaultFundModel" "juniors" "[I", .methodLink RX4 86 yX4_isMember, .instanceMethod yX4_isMember, .selects RX4 yX4_isMember yX4_isMember, .initialized RX4, .code yX4_isMember cX4_isMember 2 (some .boolean), .fieldLink RX4 68 "DefaultFundModel" "many" "I", .methodLink RX4 71 yX4_in, .static yX4_in, .code yX4_in cX4_in 3 (some .boolean), .methodLink RX4 76 yX4_fails, .instanceMethod yX4_fails, .selects RX4 yX4_fails yX4_fails, .code yX4_fails cX4_fails 2 (some .int)] ++ wsX40)
def wsX4_assessed : List Cond := .code yX4_assessed cX4_assessed 2 (some .int) :: ([.fieldLink RX4 65 "DefaultFundModel" "thrown" "I", .fieldLink RX4 31 "DefaultFundModel" "assessedBy" "[I", .methodLink RX4 86 yX4_isMember, .instanceMethod yX4_isMember, .selects RX4 yX4_isMember yX4_isMember, .initialized RX4, .code yX4_isMember cX4_isMember 2 (some .boolean), .fieldLink RX4 68 "DefaultFundModel" "many" "I", .methodLink RX4 71 yX4_in, .static yX4_in, .code yX4_in cX4_in 3 (some .boolean), .methodLink RX4 76 yX4_fails, .instanceMethod yX4_fails, .selects RX4 yX4_fails yX4_fails, .code yX4_fails cX4_fails 2 (some .int)] ++ wsX40)
def wsX4_clientLots : List Cond := .code yX4_clientLots cX4_clientLots 2 (some .int) :: ([.fieldLink RX4 65 "DefaultFundModel" "thrown" "I", .methodLink RX4 86 yX4_isMember, .instanceMethod yX4_isMember, .selects RX4 yX4_isMember yX4_isMember, .initialized RX4, .code yX4_isMember cX4_isMember 2 (some .boolean), .fieldLink RX4 68 "DefaultFundModel" "many" "I", .methodLink RX4 71 yX4_in, .static yX4_in, .code yX4_in cX4_in 3 (some .boolean), .methodLink RX4 83 yX4_lotsWith, .instanceMethod yX4_lotsWith, .selects RX4 yX4_lotsWith yX4_lotsWith, .code yX4_lotsWith cX4_lotsWith 4 (some .int), .fieldLink RX4 80 "DefaultFundModel" "clients" "I", .fieldLink RX4 37 "DefaultFundModel" "owners" "[I", .fieldLink RX4 40 "DefaultFundModel" "lotsOf" "[I", .methodLink RX4 76 yX4_fails, .instanceMethod yX4_fails, .selects RX4 yX4_fails yX4_fails, .code yX4_fails cX4_fails 2 (some .int)] ++ wsX40)
def wsX4_won : List Cond := .code yX4_won cX4_won 2 (some .int) :: ([.fieldLink RX4 65 "DefaultFundModel" "thrown" "I", .fieldLink RX4 34 "DefaultFundModel" "wonBy" "[I", .methodLink RX4 86 yX4_isMember, .instanceMethod yX4_isMember, .selects RX4 yX4_isMember yX4_isMember, .initialized RX4, .code yX4_isMember cX4_isMember 2 (some .boolean), .fieldLink RX4 68 "DefaultFundModel" "many" "I", .methodLink RX4 71 yX4_in, .static yX4_in, .code yX4_in cX4_in 3 (some .boolean), .methodLink RX4 76 yX4_fails, .instanceMethod yX4_fails, .selects RX4 yX4_fails yX4_fails, .code yX4_fails cX4_fails 2 (some .int)] ++ wsX40)
def wsX4_capital : List Cond := .code yX4_capital cX4_capital 1 (some .int) :: ([.fieldLink RX4 65 "DefaultFundModel" "thrown" "I", .fieldLink RX4 99 "DefaultFundModel" "capitalNow" "I"] ++ wsX40)
def wsX4_loss : List Cond := .code yX4_loss cX4_loss 1 (some .int) :: ([.fieldLink RX4 65 "DefaultFundModel" "thrown" "I", .fieldLink RX4 123 "DefaultFundModel" "lossNow" "I"] ++ wsX40)
def wsX4_uncovered : List Cond := .code yX4_uncovered cX4_uncovered 1 (some .int) :: ([.fieldLink RX4 65 "DefaultFundModel" "thrown" "I", .fieldLink RX4 136 "DefaultFundModel" "uncoveredNow" "I"] ++ wsX40)
def wsX4_failing : List Cond := .code yX4_failing cX4_failing 1 (some .int) :: ([.fieldLink RX4 65 "DefaultFundModel" "thrown" "I", .fieldLink RX4 46 "DefaultFundModel" "failed" "I"] ++ wsX40)
def wsJ9_max_7cf53 : List Cond := .code yJ9_max_7cf53 cJ9_max_7cf53 2 (some .int) :: ([])
def wsJ9_min_7cf53 : List Cond := .code yJ9_min_7cf53 cJ9_min_7cf53 2 (some .int) :: ([])
def wsL_addMember : List Cond := .codeWith yL_addMember cL_addMember 6 (some .int) [(0, 12, 15, 13), (0, 12, 19, 15)] :: ([.classLink RL 13 "java/lang/IllegalArgumentException", .classLink RL 15 "java/lang/IllegalStateException", .methodLink RL 7 yX3_addMember, .instanceMethod yX3_addMember, .selects RX3 yX3_addMember yX3_addMember, .initialized RX3, .code yX3_addMember cX3_addMember 4 (some .int), .classLink RX3 51 "java/lang/IllegalStateException", .initialized "java/lang/IllegalStateException", .constant RX3 46 (1000000), .fieldLink RX3 29 "DefaultFund" "count" "I", .fieldLink RX3 11 "DefaultFund" "members" "[LDefaultFund$Member;", .methodLink RX3 47 yX3_requireBetween, .static yX3_requireBetween, .code yX3_requireBetween cX3_requireBetween 3 none, .classLink RX3 179 "java/lang/IllegalArgumentException", .initialized "java/lang/IllegalArgumentException", .instanceMethod yX1_join, .initialized RX1, .selects RX1 yX1_join yX1_join, .code yX1_join cX1_join 4 none, .fieldLink RX1 25 "DefaultFund$Member" "margin" "I", .fieldLink RX1 28 "DefaultFund$Member" "share" "I", .fieldLink RX1 31 "DefaultFund$Member" "room" "I"] ++ wsX30 ++ wsX10 ++ (vx_atS RX3 55 "java/lang/IllegalStateException" ["java/lang/RuntimeException", "java/lang/Exception"]).filter goodWord ++ (vx_atS RX3 183 "java/lang/IllegalArgumentException" ["java/lang/RuntimeException", "java/lang/Exception"]).filter goodWord)
def wsL_addClient_r1 : List Cond := [Cond.classLink RL 21 "java/lang/IndexOutOfBoundsException", Cond.classLink RL 13 "java/lang/IllegalArgumentException", Cond.classLink RL 15 "java/lang/IllegalStateException", Cond.methodLink RL 17 yX3_addClient, Cond.instanceMethod yX3_addClient, Cond.selects RX3 yX3_addClient yX3_addClient, Cond.initialized RX3, Cond.code yX3_addClient cX3_addClient 4 (some .int), Cond.classLink RX3 51 "java/lang/IllegalStateException", Cond.initialized "java/lang/IllegalStateException", Cond.methodLink RX3 61 yX3_existing, Cond.instanceMethod yX3_existing, Cond.selects RX3 yX3_existing yX3_existing, Cond.code yX3_existing cX3_existing 2 (some (.object "DefaultFund$Member")), Cond.classLink RX3 133 "java/lang/IndexOutOfBoundsException", Cond.initialized "java/lang/IndexOutOfBoundsException", Cond.fieldLink RX3 29 "DefaultFund" "count" "I", Cond.fieldLink RX3 11 "DefaultFund" "members" "[LDefaultFund$Member;", Cond.methodLink RX3 47 yX3_requireBetween, Cond.static yX3_requireBetween, Cond.code yX3_requireBetween cX3_requireBetween 3 none, Cond.classLink RX3 179 "java/lang/IllegalArgumentException", Cond.initialized "java/lang/IllegalArgumentException", Cond.methodLink RX3 65 yX3_requireActive]
def wsL_addClient_r2 : List Cond := [Cond.static yX3_requireActive, Cond.code yX3_requireActive cX3_requireActive 1 none, Cond.instanceMethod yX1_isActive, Cond.initialized RX1, Cond.selects RX1 yX1_isActive yX1_isActive, Cond.code yX1_isActive cX1_isActive 1 (some .boolean), Cond.fieldLink RX1 22 "DefaultFund$Member" "state" "I", Cond.instanceMethod yX1_takesClient, Cond.selects RX1 yX1_takesClient yX1_takesClient, Cond.code yX1_takesClient cX1_takesClient 2 (some .boolean), Cond.fieldLink RX1 15 "DefaultFund$Member" "clientCount" "I", Cond.fieldLink RX1 9 "DefaultFund$Member" "clients" "[I", Cond.fieldLink RX1 19 "DefaultFund$Member" "clientLots" "I", Cond.methodLink RX1 53 yX1_freeRoom, Cond.instanceMethod yX1_freeRoom, Cond.selects RX1 yX1_freeRoom yX1_freeRoom, Cond.code yX1_freeRoom cX1_freeRoom 1 (some .int), Cond.fieldLink RX1 31 "DefaultFund$Member" "room" "I"]
def wsL_addClient : List Cond := .codeWith yL_addClient cL_addClient 5 (some .int) [(0, 10, 13, 21), (0, 10, 17, 13), (0, 10, 21, 15)] :: ((wsL_addClient_r1 ++ wsL_addClient_r2) ++ wsX30 ++ wsX10 ++ (vx_atS RX3 55 "java/lang/IllegalStateException" ["java/lang/RuntimeException", "java/lang/Exception"]).filter goodWord ++ (vx_atS RX3 137 "java/lang/IndexOutOfBoundsException" ["java/lang/RuntimeException", "java/lang/Exception"]).filter goodWord ++ (vx_atS RX3 183 "java/lang/IllegalArgumentException" ["java/lang/RuntimeException", "java/lang/Exception"]).filter goodWord)
def wsL_setGain_r1 : List Cond := [Cond.classLink RL 21 "java/lang/IndexOutOfBoundsException", Cond.classLink RL 13 "java/lang/IllegalArgumentException", Cond.classLink RL 15 "java/lang/IllegalStateException", Cond.methodLink RL 23 yX3_setGain, Cond.instanceMethod yX3_setGain, Cond.selects RX3 yX3_setGain yX3_setGain, Cond.initialized RX3, Cond.code yX3_setGain cX3_setGain 5 (some .int), Cond.constant RX3 46 (1000000), Cond.methodLink RX3 61 yX3_existing, Cond.instanceMethod yX3_existing, Cond.selects RX3 yX3_existing yX3_existing, Cond.code yX3_existing cX3_existing 2 (some (.object "DefaultFund$Member")), Cond.classLink RX3 133 "java/lang/IndexOutOfBoundsException", Cond.initialized "java/lang/IndexOutOfBoundsException", Cond.fieldLink RX3 29 "DefaultFund" "count" "I", Cond.fieldLink RX3 11 "DefaultFund" "members" "[LDefaultFund$Member;", Cond.methodLink RX3 47 yX3_requireBetween, Cond.static yX3_requireBetween, Cond.code yX3_requireBetween cX3_requireBetween 3 none, Cond.classLink RX3 179 "java/lang/IllegalArgumentException", Cond.initialized "java/lang/IllegalArgumentException", Cond.methodLink RX3 65 yX3_requireActive, Cond.static yX3_requireActive]
def wsL_setGain_r2 : List Cond := [Cond.code yX3_requireActive cX3_requireActive 1 none, Cond.classLink RX3 51 "java/lang/IllegalStateException", Cond.initialized "java/lang/IllegalStateException", Cond.instanceMethod yX1_isActive, Cond.initialized RX1, Cond.selects RX1 yX1_isActive yX1_isActive, Cond.code yX1_isActive cX1_isActive 1 (some .boolean), Cond.fieldLink RX1 22 "DefaultFund$Member" "state" "I"]
def wsL_setGain : List Cond := .codeWith yL_setGain cL_setGain 5 (some .int) [(0, 10, 13, 21), (0, 10, 17, 13), (0, 10, 21, 15)] :: ((wsL_setGain_r1 ++ wsL_setGain_r2) ++ wsX10 ++ wsX30 ++ (vx_atS RX3 137 "java/lang/IndexOutOfBoundsException" ["java/lang/RuntimeException", "java/lang/Exception"]).filter goodWord ++ (vx_atS RX3 183 "java/lang/IllegalArgumentException" ["java/lang/RuntimeException", "java/lang/Exception"]).filter goodWord ++ (vx_atS RX3 55 "java/lang/IllegalStateException" ["java/lang/RuntimeException", "java/lang/Exception"]).filter goodWord)
def wsL_setTested_r1 : List Cond := [Cond.classLink RL 21 "java/lang/IndexOutOfBoundsException", Cond.classLink RL 13 "java/lang/IllegalArgumentException", Cond.classLink RL 15 "java/lang/IllegalStateException", Cond.methodLink RL 26 yX3_setTested, Cond.instanceMethod yX3_setTested, Cond.selects RX3 yX3_setTested yX3_setTested, Cond.initialized RX3, Cond.code yX3_setTested cX3_setTested 5 (some .int), Cond.constant RX3 46 (1000000), Cond.methodLink RX3 61 yX3_existing, Cond.instanceMethod yX3_existing, Cond.selects RX3 yX3_existing yX3_existing, Cond.code yX3_existing cX3_existing 2 (some (.object "DefaultFund$Member")), Cond.classLink RX3 133 "java/lang/IndexOutOfBoundsException", Cond.initialized "java/lang/IndexOutOfBoundsException", Cond.fieldLink RX3 29 "DefaultFund" "count" "I", Cond.fieldLink RX3 11 "DefaultFund" "members" "[LDefaultFund$Member;", Cond.methodLink RX3 47 yX3_requireBetween, Cond.static yX3_requireBetween, Cond.code yX3_requireBetween cX3_requireBetween 3 none, Cond.classLink RX3 179 "java/lang/IllegalArgumentException", Cond.initialized "java/lang/IllegalArgumentException", Cond.methodLink RX3 65 yX3_requireActive, Cond.static yX3_requireActive]
def wsL_setTested_r2 : List Cond := [Cond.code yX3_requireActive cX3_requireActive 1 none, Cond.classLink RX3 51 "java/lang/IllegalStateException", Cond.initialized "java/lang/IllegalStateException", Cond.instanceMethod yX1_isActive, Cond.initialized RX1, Cond.selects RX1 yX1_isActive yX1_isActive, Cond.code yX1_isActive cX1_isActive 1 (some .boolean), Cond.fieldLink RX1 22 "DefaultFund$Member" "state" "I"]
def wsL_setTested : List Cond := .codeWith yL_setTested cL_setTested 5 (some .int) [(0, 10, 13, 21), (0, 10, 17, 13), (0, 10, 21, 15)] :: ((wsL_setTested_r1 ++ wsL_setTested_r2) ++ wsX10 ++ wsX30 ++ (vx_atS RX3 137 "java/lang/IndexOutOfBoundsException" ["java/lang/RuntimeException", "java/lang/Exception"]).filter goodWord ++ (vx_atS RX3 183 "java/lang/IllegalArgumentException" ["java/lang/RuntimeException", "java/lang/Exception"]).filter goodWord ++ (vx_atS RX3 55 "java/lang/IllegalStateException" ["java/lang/RuntimeException", "java/lang/Exception"]).filter goodWord)
def wsL_setCapital : List Cond := .codeWith yL_setCapital cL_setCapital 4 (some .int) [(0, 9, 12, 13)] :: ([.classLink RL 13 "java/lang/IllegalArgumentException", .methodLink RL 29 yX3_setCapital, .instanceMethod yX3_setCapital, .selects RX3 yX3_setCapital yX3_setCapital, .initialized RX3, .code yX3_setCapital cX3_setCapital 3 (some .int), .constant RX3 46 (1000000), .fieldLink RX3 33 "DefaultFund" "capital" "I", .methodLink RX3 47 yX3_requireBetween, .static yX3_requireBetween, .code yX3_requireBetween cX3_requireBetween 3 none, .classLink RX3 179 "java/lang/IllegalArgumentException", .initialized "java/lang/IllegalArgumentException"] ++ wsX30 ++ (vx_atS RX3 183 "java/lang/IllegalArgumentException" ["java/lang/RuntimeException", "java/lang/Exception"]).filter goodWord)
def wsL_giveNotice : List Cond := .codeWith yL_giveNotice cL_giveNotice 3 (some .int) [(0, 5, 8, 21), (0, 5, 11, 15)] :: ([.classLink RL 21 "java/lang/IndexOutOfBoundsException", .classLink RL 15 "java/lang/IllegalStateException", .methodLink RL 33 yX3_giveNotice, .instanceMethod yX3_giveNotice, .selects RX3 yX3_giveNotice yX3_giveNotice, .initialized RX3, .code yX3_giveNotice cX3_giveNotice 3 none, .classLink RX3 51 "java/lang/IllegalStateException", .initialized "java/lang/IllegalStateException", .methodLink RX3 61 yX3_existing, .instanceMethod yX3_existing, .selects RX3 yX3_existing yX3_existing, .code yX3_existing cX3_existing 2 (some (.object "DefaultFund$Member")), .classLink RX3 133 "java/lang/IndexOutOfBoundsException", .initialized "java/lang/IndexOutOfBoundsException", .fieldLink RX3 29 "DefaultFund" "count" "I", .fieldLink RX3 11 "DefaultFund" "members" "[LDefaultFund$Member;", .methodLink RX3 90 yX3_requireNoFailure, .instanceMethod yX3_requireNoFailure, .selects RX3 yX3_requireNoFailure yX3_requireNoFailure, .code yX3_requireNoFailure cX3_requireNoFailure 1 none, .fieldLink RX3 42 "DefaultFund" "failing" "I"] ++ wsX10 ++ wsX30 ++ (vx_atS RX3 55 "java/lang/IllegalStateException" ["java/lang/RuntimeException", "java/lang/Exception"]).filter goodWord ++ (vx_atS RX3 137 "java/lang/IndexOutOfBoundsException" ["java/lang/RuntimeException", "java/lang/Exception"]).filter goodWord)
def wsL_size_r1 : List Cond := [Cond.classLink RL 15 "java/lang/IllegalStateException", Cond.methodLink RL 37 yX3_size, Cond.instanceMethod yX3_size, Cond.selects RX3 yX3_size yX3_size, Cond.initialized RX3, Cond.code yX3_size cX3_size 4 (some .int), Cond.fieldLink RX3 29 "DefaultFund" "count" "I", Cond.fieldLink RX3 11 "DefaultFund" "members" "[LDefaultFund$Member;", Cond.fieldLink RX3 25 "DefaultFund" "parting" "LDefaultFund$Parting;", Cond.methodLink RX3 90 yX3_requireNoFailure, Cond.instanceMethod yX3_requireNoFailure, Cond.selects RX3 yX3_requireNoFailure yX3_requireNoFailure, Cond.code yX3_requireNoFailure cX3_requireNoFailure 1 none, Cond.classLink RX3 51 "java/lang/IllegalStateException", Cond.initialized "java/lang/IllegalStateException", Cond.fieldLink RX3 42 "DefaultFund" "failing" "I", Cond.methodLink RX3 93 yX3_neededFund, Cond.instanceMethod yX3_neededFund, Cond.selects RX3 yX3_neededFund yX3_neededFund, Cond.code yX3_neededFund cX3_neededFund 5 (some .int), Cond.methodLink RX3 188 Lib.Math.min.name, Cond.static Lib.Math.min.name, Cond.initialized "java/lang/Math", Cond.code Lib.Math.min.name Lib.Math.min.code 2 (some .int)]
def wsL_size_r2 : List Cond := [Cond.methodLink RX3 150 Lib.Math.max.name, Cond.static Lib.Math.max.name, Cond.code Lib.Math.max.name Lib.Math.max.code 2 (some .int), Cond.instanceMethod yX1_isActive, Cond.initialized RX1, Cond.selects RX1 yX1_isActive yX1_isActive, Cond.code yX1_isActive cX1_isActive 1 (some .boolean), Cond.fieldLink RX1 22 "DefaultFund$Member" "state" "I", Cond.instanceMethod yX2_enter, Cond.initialized RX2, Cond.selects RX2 yX2_enter yX2_enter, Cond.code yX2_enter cX2_enter 4 none, Cond.fieldLink RX2 9 "DefaultFund$Parting" "weights" "[I", Cond.fieldLink RX2 15 "DefaultFund$Parting" "bounds" "[I", Cond.instanceMethod yX2_part, Cond.selects RX2 yX2_part yX2_part, Cond.code yX2_part cX2_part 6 (some .int), Cond.fieldLink RX2 18 "DefaultFund$Parting" "parts" "[I", Cond.methodLink RX2 21 Lib.Math.min.name, Cond.methodLink RX2 27 yX2_giveCoins, Cond.instanceMethod yX2_giveCoins, Cond.selects RX2 yX2_giveCoins yX2_giveCoins, Cond.code yX2_giveCoins cX2_giveCoins 6 (some .int), Cond.methodLink RX2 31 yX2_roundsAtAStroke]
def wsL_size_r3 : List Cond := [Cond.instanceMethod yX2_roundsAtAStroke, Cond.selects RX2 yX2_roundsAtAStroke yX2_roundsAtAStroke, Cond.code yX2_roundsAtAStroke cX2_roundsAtAStroke 5 (some .int), Cond.methodLink RX2 38 Lib.Math.max.name, Cond.methodLink RX2 34 yX2_canTake, Cond.instanceMethod yX2_canTake, Cond.selects RX2 yX2_canTake yX2_canTake, Cond.code yX2_canTake cX2_canTake 2 (some .boolean), Cond.instanceMethod yX2_partOf, Cond.selects RX2 yX2_partOf yX2_partOf, Cond.code yX2_partOf cX2_partOf 2 (some .int), Cond.instanceMethod yX1_raiseShare, Cond.selects RX1 yX1_raiseShare yX1_raiseShare, Cond.code yX1_raiseShare cX1_raiseShare 3 (some .int), Cond.fieldLink RX1 28 "DefaultFund$Member" "share" "I", Cond.methodLink RX1 57 Lib.Math.max.name]
def wsL_size : List Cond := .codeWith yL_size cL_size 3 (some .int) [(0, 8, 11, 15)] :: ((wsL_size_r1 ++ (wsL_size_r2 ++ wsL_size_r3)) ++ wsX30 ++ wsX10 ++ wsX20 ++ (vx_atS RX3 55 "java/lang/IllegalStateException" ["java/lang/RuntimeException", "java/lang/Exception"]).filter goodWord)
def wsL_fail_r1 : List Cond := [Cond.classLink RL 21 "java/lang/IndexOutOfBoundsException", Cond.classLink RL 13 "java/lang/IllegalArgumentException", Cond.classLink RL 15 "java/lang/IllegalStateException", Cond.methodLink RL 41 yX3_fail, Cond.instanceMethod yX3_fail, Cond.selects RX3 yX3_fail yX3_fail, Cond.initialized RX3, Cond.code yX3_fail cX3_fail 5 (some .int), Cond.fieldLink RX3 29 "DefaultFund" "count" "I", Cond.fieldLink RX3 11 "DefaultFund" "members" "[LDefaultFund$Member;", Cond.fieldLink RX3 42 "DefaultFund" "failing" "I", Cond.fieldLink RX3 18 "DefaultFund" "auction" "LDefaultFund$Auction;", Cond.methodLink RX3 61 yX3_existing, Cond.instanceMethod yX3_existing, Cond.selects RX3 yX3_existing yX3_existing, Cond.code yX3_existing cX3_existing 2 (some (.object "DefaultFund$Member")), Cond.classLink RX3 133 "java/lang/IndexOutOfBoundsException", Cond.initialized "java/lang/IndexOutOfBoundsException", Cond.methodLink RX3 47 yX3_requireBetween, Cond.static yX3_requireBetween, Cond.code yX3_requireBetween cX3_requireBetween 3 none, Cond.classLink RX3 179 "java/lang/IllegalArgumentException", Cond.initialized "java/lang/IllegalArgumentException", Cond.methodLink RX3 65 yX3_requireActive]
def wsL_fail_r2 : List Cond := [Cond.static yX3_requireActive, Cond.code yX3_requireActive cX3_requireActive 1 none, Cond.classLink RX3 51 "java/lang/IllegalStateException", Cond.initialized "java/lang/IllegalStateException", Cond.instanceMethod yX1_isActive, Cond.initialized RX1, Cond.selects RX1 yX1_isActive yX1_isActive, Cond.code yX1_isActive cX1_isActive 1 (some .boolean), Cond.fieldLink RX1 22 "DefaultFund$Member" "state" "I", Cond.methodLink RX3 90 yX3_requireNoFailure, Cond.instanceMethod yX3_requireNoFailure, Cond.selects RX3 yX3_requireNoFailure yX3_requireNoFailure, Cond.code yX3_requireNoFailure cX3_requireNoFailure 1 none, Cond.methodLink RX3 122 yX3_moveClients, Cond.instanceMethod yX3_moveClients, Cond.selects RX3 yX3_moveClients yX3_moveClients, Cond.code yX3_moveClients cX3_moveClients 5 (some .int), Cond.methodLink RX3 198 yX3_findsHost, Cond.instanceMethod yX3_findsHost, Cond.selects RX3 yX3_findsHost yX3_findsHost, Cond.code yX3_findsHost cX3_findsHost 3 (some .boolean), Cond.instanceMethod yX1_takesClient, Cond.selects RX1 yX1_takesClient yX1_takesClient, Cond.code yX1_takesClient cX1_takesClient 2 (some .boolean)]
def wsL_fail_r3 : List Cond := [Cond.fieldLink RX1 15 "DefaultFund$Member" "clientCount" "I", Cond.fieldLink RX1 9 "DefaultFund$Member" "clients" "[I", Cond.fieldLink RX1 19 "DefaultFund$Member" "clientLots" "I", Cond.methodLink RX1 53 yX1_freeRoom, Cond.instanceMethod yX1_freeRoom, Cond.selects RX1 yX1_freeRoom yX1_freeRoom, Cond.code yX1_freeRoom cX1_freeRoom 1 (some .int), Cond.fieldLink RX1 31 "DefaultFund$Member" "room" "I", Cond.instanceMethod yX1_dropClients, Cond.selects RX1 yX1_dropClients yX1_dropClients, Cond.code yX1_dropClients cX1_dropClients 1 none, Cond.instanceMethod yX0_open, Cond.initialized RX0, Cond.selects RX0 yX0_open yX0_open, Cond.code yX0_open cX0_open 4 none, Cond.methodLink RX0 20 Lib.Math.min.name, Cond.static Lib.Math.min.name, Cond.initialized "java/lang/Math", Cond.code Lib.Math.min.name Lib.Math.min.code 2 (some .int), Cond.fieldLink RX0 16 "DefaultFund$Auction" "lots" "I", Cond.fieldLink RX0 11 "DefaultFund$Auction" "bids" "[[I"]
def wsL_fail : List Cond := .codeWith yL_fail cL_fail 5 (some .int) [(0, 10, 13, 21), (0, 10, 17, 13), (0, 10, 21, 15)] :: ((wsL_fail_r1 ++ (wsL_fail_r2 ++ wsL_fail_r3)) ++ wsX30 ++ wsX10 ++ wsX00 ++ (vx_atS RX3 137 "java/lang/IndexOutOfBoundsException" ["java/lang/RuntimeException", "java/lang/Exception"]).filter goodWord ++ (vx_atS RX3 183 "java/lang/IllegalArgumentException" ["java/lang/RuntimeException", "java/lang/Exception"]).filter goodWord ++ (vx_atS RX3 55 "java/lang/IllegalStateException" ["java/lang/RuntimeException", "java/lang/Exception"]).filter goodWord)
def wsL_bid_r1 : List Cond := [Cond.classLink RL 21 "java/lang/IndexOutOfBoundsException", Cond.classLink RL 13 "java/lang/IllegalArgumentException", Cond.classLink RL 15 "java/lang/IllegalStateException", Cond.methodLink RL 44 yX3_bid, Cond.instanceMethod yX3_bid, Cond.selects RX3 yX3_bid yX3_bid, Cond.initialized RX3, Cond.code yX3_bid cX3_bid 5 none, Cond.classLink RX3 133 "java/lang/IndexOutOfBoundsException", Cond.initialized "java/lang/IndexOutOfBoundsException", Cond.classLink RX3 51 "java/lang/IllegalStateException", Cond.initialized "java/lang/IllegalStateException", Cond.fieldLink RX3 42 "DefaultFund" "failing" "I", Cond.fieldLink RX3 18 "DefaultFund" "auction" "LDefaultFund$Auction;", Cond.methodLink RX3 61 yX3_existing, Cond.instanceMethod yX3_existing, Cond.selects RX3 yX3_existing yX3_existing, Cond.code yX3_existing cX3_existing 2 (some (.object "DefaultFund$Member")), Cond.fieldLink RX3 29 "DefaultFund" "count" "I", Cond.fieldLink RX3 11 "DefaultFund" "members" "[LDefaultFund$Member;", Cond.instanceMethod yX0_hasLot, Cond.initialized RX0, Cond.selects RX0 yX0_hasLot yX0_hasLot, Cond.code yX0_hasLot cX0_hasLot 2 (some .boolean)]
def wsL_bid_r2 : List Cond := [Cond.fieldLink RX0 16 "DefaultFund$Auction" "lots" "I", Cond.methodLink RX3 47 yX3_requireBetween, Cond.static yX3_requireBetween, Cond.code yX3_requireBetween cX3_requireBetween 3 none, Cond.classLink RX3 179 "java/lang/IllegalArgumentException", Cond.initialized "java/lang/IllegalArgumentException", Cond.methodLink RX3 65 yX3_requireActive, Cond.static yX3_requireActive, Cond.code yX3_requireActive cX3_requireActive 1 none, Cond.instanceMethod yX1_isActive, Cond.initialized RX1, Cond.selects RX1 yX1_isActive yX1_isActive, Cond.code yX1_isActive cX1_isActive 1 (some .boolean), Cond.fieldLink RX1 22 "DefaultFund$Member" "state" "I", Cond.instanceMethod yX0_bidOf, Cond.selects RX0 yX0_bidOf yX0_bidOf, Cond.code yX0_bidOf cX0_bidOf 3 (some .int), Cond.fieldLink RX0 11 "DefaultFund$Auction" "bids" "[[I", Cond.instanceMethod yX0_enter, Cond.selects RX0 yX0_enter yX0_enter, Cond.code yX0_enter cX0_enter 4 none]
def wsL_bid : List Cond := .codeWith yL_bid cL_bid 5 (some .int) [(0, 7, 10, 21), (0, 7, 14, 13), (0, 7, 18, 15)] :: ((wsL_bid_r1 ++ wsL_bid_r2) ++ wsX30 ++ wsX00 ++ wsX10 ++ (vx_atS RX3 137 "java/lang/IndexOutOfBoundsException" ["java/lang/RuntimeException", "java/lang/Exception"]).filter goodWord ++ (vx_atS RX3 55 "java/lang/IllegalStateException" ["java/lang/RuntimeException", "java/lang/Exception"]).filter goodWord ++ (vx_atS RX3 183 "java/lang/IllegalArgumentException" ["java/lang/RuntimeException", "java/lang/Exception"]).filter goodWord)
def wsL_close_r1 : List Cond := [Cond.classLink RL 15 "java/lang/IllegalStateException", Cond.methodLink RL 48 yX3_close, Cond.instanceMethod yX3_close, Cond.selects RX3 yX3_close yX3_close, Cond.initialized RX3, Cond.code yX3_close cX3_close 2 (some .int), Cond.classLink RX3 51 "java/lang/IllegalStateException", Cond.initialized "java/lang/IllegalStateException", Cond.fieldLink RX3 42 "DefaultFund" "failing" "I", Cond.methodLink RX3 150 Lib.Math.max.name, Cond.static Lib.Math.max.name, Cond.initialized "java/lang/Math", Cond.code Lib.Math.max.name Lib.Math.max.code 2 (some .int), Cond.fieldLink RX3 36 "DefaultFund" "loss" "I", Cond.fieldLink RX3 11 "DefaultFund" "members" "[LDefaultFund$Member;", Cond.fieldLink RX3 39 "DefaultFund" "uncovered" "I", Cond.methodLink RX3 147 yX3_awardLots, Cond.instanceMethod yX3_awardLots, Cond.selects RX3 yX3_awardLots yX3_awardLots, Cond.code yX3_awardLots cX3_awardLots 4 (some .int), Cond.fieldLink RX3 18 "DefaultFund" "auction" "LDefaultFund$Auction;", Cond.instanceMethod yX0_winnerOf, Cond.initialized RX0, Cond.selects RX0 yX0_winnerOf yX0_winnerOf]
def wsL_close_r2 : List Cond := [Cond.code yX0_winnerOf cX0_winnerOf 5 (some .int), Cond.fieldLink RX0 11 "DefaultFund$Auction" "bids" "[[I", Cond.instanceMethod yX0_bidOf, Cond.selects RX0 yX0_bidOf yX0_bidOf, Cond.code yX0_bidOf cX0_bidOf 3 (some .int), Cond.methodLink RX3 155 yX3_rankBidders, Cond.instanceMethod yX3_rankBidders, Cond.selects RX3 yX3_rankBidders yX3_rankBidders, Cond.code yX3_rankBidders cX3_rankBidders 2 none, Cond.fieldLink RX3 29 "DefaultFund" "count" "I", Cond.instanceMethod yX1_isActive, Cond.initialized RX1, Cond.selects RX1 yX1_isActive yX1_isActive, Cond.code yX1_isActive cX1_isActive 1 (some .boolean), Cond.fieldLink RX1 22 "DefaultFund$Member" "state" "I", Cond.instanceMethod yX0_bidPoorly, Cond.selects RX0 yX0_bidPoorly yX0_bidPoorly, Cond.code yX0_bidPoorly cX0_bidPoorly 5 (some .boolean), Cond.fieldLink RX0 16 "DefaultFund$Auction" "lots" "I", Cond.methodLink RX0 26 yX0_isLow, Cond.instanceMethod yX0_isLow, Cond.selects RX0 yX0_isLow yX0_isLow, Cond.code yX0_isLow cX0_isLow 4 (some .boolean), Cond.methodLink RX0 30 yX0_winnerOf]
def wsL_close_r3 : List Cond := [Cond.methodLink RX3 158 yX3_eatLoss, Cond.instanceMethod yX3_eatLoss, Cond.selects RX3 yX3_eatLoss yX3_eatLoss, Cond.code yX3_eatLoss cX3_eatLoss 4 (some .int), Cond.methodLink RX3 188 Lib.Math.min.name, Cond.static Lib.Math.min.name, Cond.code Lib.Math.min.name Lib.Math.min.code 2 (some .int), Cond.fieldLink RX3 33 "DefaultFund" "capital" "I", Cond.methodLink RX3 216 yX3_eatShares, Cond.instanceMethod yX3_eatShares, Cond.selects RX3 yX3_eatShares yX3_eatShares, Cond.code yX3_eatShares cX3_eatShares 6 (some .int), Cond.fieldLink RX3 25 "DefaultFund" "parting" "LDefaultFund$Parting;", Cond.instanceMethod yX2_enter, Cond.initialized RX2, Cond.selects RX2 yX2_enter yX2_enter, Cond.code yX2_enter cX2_enter 4 none, Cond.fieldLink RX2 9 "DefaultFund$Parting" "weights" "[I", Cond.fieldLink RX2 15 "DefaultFund$Parting" "bounds" "[I", Cond.instanceMethod yX2_part, Cond.selects RX2 yX2_part yX2_part, Cond.code yX2_part cX2_part 6 (some .int), Cond.fieldLink RX2 18 "DefaultFund$Parting" "parts" "[I", Cond.methodLink RX2 21 Lib.Math.min.name]
def wsL_close_r4 : List Cond := [Cond.methodLink RX2 27 yX2_giveCoins, Cond.instanceMethod yX2_giveCoins, Cond.selects RX2 yX2_giveCoins yX2_giveCoins, Cond.code yX2_giveCoins cX2_giveCoins 6 (some .int), Cond.methodLink RX2 31 yX2_roundsAtAStroke, Cond.instanceMethod yX2_roundsAtAStroke, Cond.selects RX2 yX2_roundsAtAStroke yX2_roundsAtAStroke, Cond.code yX2_roundsAtAStroke cX2_roundsAtAStroke 5 (some .int), Cond.methodLink RX2 38 Lib.Math.max.name, Cond.methodLink RX2 34 yX2_canTake, Cond.instanceMethod yX2_canTake, Cond.selects RX2 yX2_canTake yX2_canTake, Cond.code yX2_canTake cX2_canTake 2 (some .boolean), Cond.instanceMethod yX2_partOf, Cond.selects RX2 yX2_partOf yX2_partOf, Cond.code yX2_partOf cX2_partOf 2 (some .int), Cond.methodLink RX3 220 yX3_eatAssessments, Cond.instanceMethod yX3_eatAssessments, Cond.selects RX3 yX3_eatAssessments yX3_eatAssessments, Cond.code yX3_eatAssessments cX3_eatAssessments 5 (some .int), Cond.methodLink RX3 223 yX3_eatGains, Cond.instanceMethod yX3_eatGains, Cond.selects RX3 yX3_eatGains yX3_eatGains, Cond.code yX3_eatGains cX3_eatGains 4 (some .int)]
def wsL_close_r5 : List Cond := [Cond.methodLink RX3 161 yX3_endFailure, Cond.instanceMethod yX3_endFailure, Cond.selects RX3 yX3_endFailure yX3_endFailure, Cond.code yX3_endFailure cX3_endFailure 3 none, Cond.instanceMethod yX1_loseAll, Cond.selects RX1 yX1_loseAll yX1_loseAll, Cond.code yX1_loseAll cX1_loseAll 1 none, Cond.fieldLink RX1 25 "DefaultFund$Member" "margin" "I", Cond.fieldLink RX1 28 "DefaultFund$Member" "share" "I", Cond.fieldLink RX1 34 "DefaultFund$Member" "gain" "I", Cond.methodLink RX1 63 yX1_dropClients, Cond.instanceMethod yX1_dropClients, Cond.selects RX1 yX1_dropClients yX1_dropClients, Cond.code yX1_dropClients cX1_dropClients 1 none, Cond.fieldLink RX1 15 "DefaultFund$Member" "clientCount" "I", Cond.fieldLink RX1 19 "DefaultFund$Member" "clientLots" "I"]
def wsL_close : List Cond := .codeWith yL_close cL_close 3 (some .int) [(0, 8, 11, 15)] :: ((wsL_close_r1 ++ (wsL_close_r2 ++ (wsL_close_r3 ++ (wsL_close_r4 ++ wsL_close_r5)))) ++ wsX30 ++ wsX00 ++ wsX10 ++ wsX20 ++ (vx_atS RX3 55 "java/lang/IllegalStateException" ["java/lang/RuntimeException", "java/lang/Exception"]).filter goodWord)
def wsL_state : List Cond := .codeWith yL_state cL_state 4 (some .int) [(0, 9, 12, 21)] :: ([.classLink RL 21 "java/lang/IndexOutOfBoundsException", .methodLink RL 51 yX3_state, .instanceMethod yX3_state, .selects RX3 yX3_state yX3_state, .initialized RX3, .code yX3_state cX3_state 2 (some .int), .methodLink RX3 61 yX3_existing, .instanceMethod yX3_existing, .selects RX3 yX3_existing yX3_existing, .code yX3_existing cX3_existing 2 (some (.object "DefaultFund$Member")), .classLink RX3 133 "java/lang/IndexOutOfBoundsException", .initialized "java/lang/IndexOutOfBoundsException", .fieldLink RX3 29 "DefaultFund" "count" "I", .fieldLink RX3 11 "DefaultFund" "members" "[LDefaultFund$Member;"] ++ wsX10 ++ wsX30 ++ (vx_atS RX3 137 "java/lang/IndexOutOfBoundsException" ["java/lang/RuntimeException", "java/lang/Exception"]).filter goodWord)
def wsL_margin : List Cond := .codeWith yL_margin cL_margin 4 (some .int) [(0, 9, 12, 21)] :: ([.classLink RL 21 "java/lang/IndexOutOfBoundsException", .methodLink RL 54 yX3_margin, .instanceMethod yX3_margin, .selects RX3 yX3_margin yX3_margin, .initialized RX3, .code yX3_margin cX3_margin 2 (some .int), .methodLink RX3 61 yX3_existing, .instanceMethod yX3_existing, .selects RX3 yX3_existing yX3_existing, .code yX3_existing cX3_existing 2 (some (.object "DefaultFund$Member")), .classLink RX3 133 "java/lang/IndexOutOfBoundsException", .initialized "java/lang/IndexOutOfBoundsException", .fieldLink RX3 29 "DefaultFund" "count" "I", .fieldLink RX3 11 "DefaultFund" "members" "[LDefaultFund$Member;"] ++ wsX10 ++ wsX30 ++ (vx_atS RX3 137 "java/lang/IndexOutOfBoundsException" ["java/lang/RuntimeException", "java/lang/Exception"]).filter goodWord)
def wsL_share : List Cond := .codeWith yL_share cL_share 4 (some .int) [(0, 9, 12, 21)] :: ([.classLink RL 21 "java/lang/IndexOutOfBoundsException", .methodLink RL 57 yX3_share, .instanceMethod yX3_share, .selects RX3 yX3_share yX3_share, .initialized RX3, .code yX3_share cX3_share 2 (some .int), .methodLink RX3 61 yX3_existing, .instanceMethod yX3_existing, .selects RX3 yX3_existing yX3_existing, .code yX3_existing cX3_existing 2 (some (.object "DefaultFund$Member")), .classLink RX3 133 "java/lang/IndexOutOfBoundsException", .initialized "java/lang/IndexOutOfBoundsException", .fieldLink RX3 29 "DefaultFund" "count" "I", .fieldLink RX3 11 "DefaultFund" "members" "[LDefaultFund$Member;"] ++ wsX10 ++ wsX30 ++ (vx_atS RX3 137 "java/lang/IndexOutOfBoundsException" ["java/lang/RuntimeException", "java/lang/Exception"]).filter goodWord)
def wsL_gain : List Cond := .codeWith yL_gain cL_gain 4 (some .int) [(0, 9, 12, 21)] :: ([.classLink RL 21 "java/lang/IndexOutOfBoundsException", .methodLink RL 60 yX3_gain, .instanceMethod yX3_gain, .selects RX3 yX3_gain yX3_gain, .initialized RX3, .code yX3_gain cX3_gain 2 (some .int), .methodLink RX3 61 yX3_existing, .instanceMethod yX3_existing, .selects RX3 yX3_existing yX3_existing, .code yX3_existing cX3_existing 2 (some (.object "DefaultFund$Member")), .classLink RX3 133 "java/lang/IndexOutOfBoundsException", .initialized "java/lang/IndexOutOfBoundsException", .fieldLink RX3 29 "DefaultFund" "count" "I", .fieldLink RX3 11 "DefaultFund" "members" "[LDefaultFund$Member;"] ++ wsX10 ++ wsX30 ++ (vx_atS RX3 137 "java/lang/IndexOutOfBoundsException" ["java/lang/RuntimeException", "java/lang/Exception"]).filter goodWord)
def wsL_isJunior : List Cond := .codeWith yL_isJunior cL_isJunior 4 (some .int) [(0, 16, 19, 21)] :: ([.classLink RL 21 "java/lang/IndexOutOfBoundsException", .methodLink RL 63 yX3_isJunior, .instanceMethod yX3_isJunior, .selects RX3 yX3_isJunior yX3_isJunior, .initialized RX3, .code yX3_isJunior cX3_isJunior 2 (some .boolean), .methodLink RX3 61 yX3_existing, .instanceMethod yX3_existing, .selects RX3 yX3_existing yX3_existing, .code yX3_existing cX3_existing 2 (some (.object "DefaultFund$Member")), .classLink RX3 133 "java/lang/IndexOutOfBoundsException", .initialized "java/lang/IndexOutOfBoundsException", .fieldLink RX3 29 "DefaultFund" "count" "I", .fieldLink RX3 11 "DefaultFund" "members" "[LDefaultFund$Member;"] ++ wsX10 ++ wsX30 ++ (vx_atS RX3 137 "java/lang/IndexOutOfBoundsException" ["java/lang/RuntimeException", "java/lang/Exception"]).filter goodWord)
def wsL_assessed : List Cond := .codeWith yL_assessed cL_assessed 4 (some .int) [(0, 9, 12, 21)] :: ([.classLink RL 21 "java/lang/IndexOutOfBoundsException", .methodLink RL 67 yX3_assessed, .instanceMethod yX3_assessed, .selects RX3 yX3_assessed yX3_assessed, .initialized RX3, .code yX3_assessed cX3_assessed 2 (some .int), .methodLink RX3 61 yX3_existing, .instanceMethod yX3_existing, .selects RX3 yX3_existing yX3_existing, .code yX3_existing cX3_existing 2 (some (.object "DefaultFund$Member")), .classLink RX3 133 "java/lang/IndexOutOfBoundsException", .initialized "java/lang/IndexOutOfBoundsException", .fieldLink RX3 29 "DefaultFund" "count" "I", .fieldLink RX3 11 "DefaultFund" "members" "[LDefaultFund$Member;"] ++ wsX10 ++ wsX30 ++ (vx_atS RX3 137 "java/lang/IndexOutOfBoundsException" ["java/lang/RuntimeException", "java/lang/Exception"]).filter goodWord)
def wsL_clientLots : List Cond := .codeWith yL_clientLots cL_clientLots 4 (some .int) [(0, 9, 12, 21)] :: ([.classLink RL 21 "java/lang/IndexOutOfBoundsException", .methodLink RL 70 yX3_clientLots, .instanceMethod yX3_clientLots, .selects RX3 yX3_clientLots yX3_clientLots, .initialized RX3, .code yX3_clientLots cX3_clientLots 2 (some .int), .methodLink RX3 61 yX3_existing, .instanceMethod yX3_existing, .selects RX3 yX3_existing yX3_existing, .code yX3_existing cX3_existing 2 (some (.object "DefaultFund$Member")), .classLink RX3 133 "java/lang/IndexOutOfBoundsException", .initialized "java/lang/IndexOutOfBoundsException", .fieldLink RX3 29 "DefaultFund" "count" "I", .fieldLink RX3 11 "DefaultFund" "members" "[LDefaultFund$Member;"] ++ wsX10 ++ wsX30 ++ (vx_atS RX3 137 "java/lang/IndexOutOfBoundsException" ["java/lang/RuntimeException", "java/lang/Exception"]).filter goodWord)
def wsL_won : List Cond := .codeWith yL_won cL_won 4 (some .int) [(0, 9, 12, 21)] :: ([.classLink RL 21 "java/lang/IndexOutOfBoundsException", .methodLink RL 73 yX3_won, .instanceMethod yX3_won, .selects RX3 yX3_won yX3_won, .initialized RX3, .code yX3_won cX3_won 2 (some .int), .methodLink RX3 61 yX3_existing, .instanceMethod yX3_existing, .selects RX3 yX3_existing yX3_existing, .code yX3_existing cX3_existing 2 (some (.object "DefaultFund$Member")), .classLink RX3 133 "java/lang/IndexOutOfBoundsException", .initialized "java/lang/IndexOutOfBoundsException", .fieldLink RX3 29 "DefaultFund" "count" "I", .fieldLink RX3 11 "DefaultFund" "members" "[LDefaultFund$Member;"] ++ wsX10 ++ wsX30 ++ (vx_atS RX3 137 "java/lang/IndexOutOfBoundsException" ["java/lang/RuntimeException", "java/lang/Exception"]).filter goodWord)
def wsL_law0_r1 : List Cond := [Cond.classLink RL 8 RX3, Cond.instantiable RX3 8, Cond.initialized RX3, Cond.classLink RL 77 RX4, Cond.instantiable RX4 26, Cond.initialized RX4, Cond.arrayClass .long, Cond.methodLink RL 76 yX3_init, Cond.instanceMethod yX3_init, Cond.code yX3_init cX3_init 2 none, Cond.methodLink RX3 3 objectInit, Cond.instanceMethod objectInit, Cond.code objectInit ⟨#[0xb1]⟩ 1 none, Cond.classLink RX3 9 RX1, Cond.fieldLink RX3 11 "DefaultFund" "members" "[LDefaultFund$Member;", Cond.classLink RX3 15 RX0, Cond.instantiable RX0 2, Cond.initialized RX0, Cond.fieldLink RX3 18 "DefaultFund" "auction" "LDefaultFund$Auction;", Cond.classLink RX3 22 RX2, Cond.instantiable RX2 3, Cond.initialized RX2, Cond.fieldLink RX3 25 "DefaultFund" "parting" "LDefaultFund$Parting;", Cond.fieldLink RX3 29 "DefaultFund" "count" "I"]
def wsL_law0_r2 : List Cond := [Cond.fieldLink RX3 33 "DefaultFund" "capital" "I", Cond.fieldLink RX3 36 "DefaultFund" "loss" "I", Cond.fieldLink RX3 39 "DefaultFund" "uncovered" "I", Cond.fieldLink RX3 42 "DefaultFund" "failing" "I", Cond.instantiable RX1 13, Cond.initialized RX1, Cond.instanceMethod yX0_init, Cond.code yX0_init cX0_init 1 none, Cond.methodLink RX0 3 objectInit, Cond.classLink RX0 9 "[[I", Cond.arrayClass .int, Cond.fieldLink RX0 11 "DefaultFund$Auction" "bids" "[[I", Cond.fieldLink RX0 16 "DefaultFund$Auction" "lots" "I", Cond.instanceMethod yX2_init, Cond.code yX2_init cX2_init 1 none, Cond.methodLink RX2 3 objectInit, Cond.fieldLink RX2 9 "DefaultFund$Parting" "weights" "[I", Cond.fieldLink RX2 15 "DefaultFund$Parting" "bounds" "[I", Cond.fieldLink RX2 18 "DefaultFund$Parting" "parts" "[I", Cond.instanceMethod yX1_init, Cond.code yX1_init cX1_init 1 none, Cond.methodLink RX1 3 objectInit, Cond.fieldLink RX1 9 "DefaultFund$Member" "clients" "[I", Cond.fieldLink RX1 15 "DefaultFund$Member" "clientCount" "I"]
def wsL_law0_r3 : List Cond := [Cond.fieldLink RX1 19 "DefaultFund$Member" "clientLots" "I", Cond.fieldLink RX1 22 "DefaultFund$Member" "state" "I", Cond.fieldLink RX1 25 "DefaultFund$Member" "margin" "I", Cond.fieldLink RX1 28 "DefaultFund$Member" "share" "I", Cond.fieldLink RX1 31 "DefaultFund$Member" "room" "I", Cond.fieldLink RX1 34 "DefaultFund$Member" "gain" "I", Cond.fieldLink RX1 37 "DefaultFund$Member" "tested" "I", Cond.fieldLink RX1 40 "DefaultFund$Member" "junior" "Z", Cond.fieldLink RX1 44 "DefaultFund$Member" "assessed" "I", Cond.fieldLink RX1 47 "DefaultFund$Member" "won" "I", Cond.fieldLink RX1 50 "DefaultFund$Member" "shareAtFailure" "I", Cond.methodLink RL 79 yX4_init, Cond.instanceMethod yX4_init, Cond.code yX4_init cX4_init 1 none, Cond.methodLink RX4 1 objectInit, Cond.fieldLink RX4 7 "DefaultFundModel" "margins" "[I", Cond.fieldLink RX4 13 "DefaultFundModel" "sharesOf" "[I", Cond.fieldLink RX4 16 "DefaultFundModel" "rooms" "[I", Cond.fieldLink RX4 19 "DefaultFundModel" "gains" "[I", Cond.fieldLink RX4 22 "DefaultFundModel" "tested" "[I", Cond.fieldLink RX4 25 "DefaultFundModel" "states" "[I", Cond.fieldLink RX4 28 "DefaultFundModel" "juniors" "[I", Cond.fieldLink RX4 31 "DefaultFundModel" "assessedBy" "[I", Cond.fieldLink RX4 34 "DefaultFundModel" "wonBy" "[I"]
def wsL_law0_r4 : List Cond := [Cond.fieldLink RX4 37 "DefaultFundModel" "owners" "[I", Cond.fieldLink RX4 40 "DefaultFundModel" "lotsOf" "[I", Cond.fieldLink RX4 43 "DefaultFundModel" "cameAt" "[I", Cond.fieldLink RX4 46 "DefaultFundModel" "failed" "I", Cond.fieldLink RX4 50 "DefaultFundModel" "bids" "[I", Cond.fieldLink RX4 53 "DefaultFundModel" "sharesThen" "[I", Cond.fieldLink RX4 56 "DefaultFundModel" "weights" "[I", Cond.fieldLink RX4 59 "DefaultFundModel" "bounds" "[I", Cond.fieldLink RX4 62 "DefaultFundModel" "parts" "[I", Cond.methodLink RL 80 yL_addMember, Cond.static yL_addMember, Cond.initialized RL, Cond.codeWith yL_addMember cL_addMember 6 (some .int) [(0, 12, 15, 13), (0, 12, 19, 15)], Cond.classLink RL 13 "java/lang/IllegalArgumentException", Cond.classLink RL 15 "java/lang/IllegalStateException", Cond.methodLink RL 7 yX3_addMember, Cond.instanceMethod yX3_addMember, Cond.selects RX3 yX3_addMember yX3_addMember, Cond.code yX3_addMember cX3_addMember 4 (some .int), Cond.classLink RX3 51 "java/lang/IllegalStateException", Cond.initialized "java/lang/IllegalStateException", Cond.constant RX3 46 (1000000), Cond.methodLink RX3 47 yX3_requireBetween, Cond.static yX3_requireBetween]
def wsL_law0_r5 : List Cond := [Cond.code yX3_requireBetween cX3_requireBetween 3 none, Cond.classLink RX3 179 "java/lang/IllegalArgumentException", Cond.initialized "java/lang/IllegalArgumentException", Cond.instanceMethod yX1_join, Cond.selects RX1 yX1_join yX1_join, Cond.code yX1_join cX1_join 4 none, Cond.methodLink RL 85 yX4_addMember, Cond.instanceMethod yX4_addMember, Cond.selects RX4 yX4_addMember yX4_addMember, Cond.code yX4_addMember cX4_addMember 4 (some .int), Cond.fieldLink RX4 65 "DefaultFundModel" "thrown" "I", Cond.constant RX4 75 (1000000), Cond.fieldLink RX4 68 "DefaultFundModel" "many" "I", Cond.methodLink RX4 71 yX4_in, Cond.static yX4_in, Cond.code yX4_in cX4_in 3 (some .boolean), Cond.methodLink RX4 76 yX4_fails, Cond.instanceMethod yX4_fails, Cond.selects RX4 yX4_fails yX4_fails, Cond.code yX4_fails cX4_fails 2 (some .int), Cond.methodLink RL 86 yX4_thrown, Cond.instanceMethod yX4_thrown, Cond.selects RX4 yX4_thrown yX4_thrown, Cond.code yX4_thrown cX4_thrown 1 (some .int)]
def wsL_law0_r6 : List Cond := [Cond.methodLink RL 89 yL_addClient, Cond.static yL_addClient, Cond.codeWith yL_addClient cL_addClient 5 (some .int) [(0, 10, 13, 21), (0, 10, 17, 13), (0, 10, 21, 15)], Cond.classLink RL 21 "java/lang/IndexOutOfBoundsException", Cond.methodLink RL 17 yX3_addClient, Cond.instanceMethod yX3_addClient, Cond.selects RX3 yX3_addClient yX3_addClient, Cond.code yX3_addClient cX3_addClient 4 (some .int), Cond.methodLink RX3 61 yX3_existing, Cond.instanceMethod yX3_existing, Cond.selects RX3 yX3_existing yX3_existing, Cond.code yX3_existing cX3_existing 2 (some (.object "DefaultFund$Member")), Cond.classLink RX3 133 "java/lang/IndexOutOfBoundsException", Cond.initialized "java/lang/IndexOutOfBoundsException", Cond.methodLink RX3 65 yX3_requireActive, Cond.static yX3_requireActive, Cond.code yX3_requireActive cX3_requireActive 1 none, Cond.instanceMethod yX1_isActive, Cond.selects RX1 yX1_isActive yX1_isActive, Cond.code yX1_isActive cX1_isActive 1 (some .boolean), Cond.instanceMethod yX1_takesClient, Cond.selects RX1 yX1_takesClient yX1_takesClient, Cond.code yX1_takesClient cX1_takesClient 2 (some .boolean), Cond.methodLink RX1 53 yX1_freeRoom]
def wsL_law0_r7 : List Cond := [Cond.instanceMethod yX1_freeRoom, Cond.selects RX1 yX1_freeRoom yX1_freeRoom, Cond.code yX1_freeRoom cX1_freeRoom 1 (some .int), Cond.methodLink RL 92 yX4_addClient, Cond.instanceMethod yX4_addClient, Cond.selects RX4 yX4_addClient yX4_addClient, Cond.code yX4_addClient cX4_addClient 3 (some .int), Cond.fieldLink RX4 80 "DefaultFundModel" "clients" "I", Cond.fieldLink RX4 96 "DefaultFundModel" "came" "I", Cond.methodLink RX4 86 yX4_isMember, Cond.instanceMethod yX4_isMember, Cond.selects RX4 yX4_isMember yX4_isMember, Cond.code yX4_isMember cX4_isMember 2 (some .boolean), Cond.methodLink RX4 90 yX4_isActive, Cond.instanceMethod yX4_isActive, Cond.selects RX4 yX4_isActive yX4_isActive, Cond.code yX4_isActive cX4_isActive 2 (some .boolean), Cond.methodLink RX4 93 yX4_roomOf, Cond.instanceMethod yX4_roomOf, Cond.selects RX4 yX4_roomOf yX4_roomOf, Cond.code yX4_roomOf cX4_roomOf 2 (some .int), Cond.methodLink RX4 83 yX4_lotsWith, Cond.instanceMethod yX4_lotsWith, Cond.selects RX4 yX4_lotsWith yX4_lotsWith]
def wsL_law0_r8 : List Cond := [Cond.code yX4_lotsWith cX4_lotsWith 4 (some .int), Cond.methodLink RL 93 yL_setGain, Cond.static yL_setGain, Cond.codeWith yL_setGain cL_setGain 5 (some .int) [(0, 10, 13, 21), (0, 10, 17, 13), (0, 10, 21, 15)], Cond.methodLink RL 23 yX3_setGain, Cond.instanceMethod yX3_setGain, Cond.selects RX3 yX3_setGain yX3_setGain, Cond.code yX3_setGain cX3_setGain 5 (some .int), Cond.methodLink RL 95 yX4_setGain, Cond.instanceMethod yX4_setGain, Cond.selects RX4 yX4_setGain yX4_setGain, Cond.code yX4_setGain cX4_setGain 4 (some .int), Cond.methodLink RL 96 yL_setTested, Cond.static yL_setTested, Cond.codeWith yL_setTested cL_setTested 5 (some .int) [(0, 10, 13, 21), (0, 10, 17, 13), (0, 10, 21, 15)], Cond.methodLink RL 26 yX3_setTested, Cond.instanceMethod yX3_setTested, Cond.selects RX3 yX3_setTested yX3_setTested, Cond.code yX3_setTested cX3_setTested 5 (some .int), Cond.methodLink RL 98 yX4_setTested, Cond.instanceMethod yX4_setTested, Cond.selects RX4 yX4_setTested yX4_setTested, Cond.code yX4_setTested cX4_setTested 4 (some .int), Cond.methodLink RL 99 yL_setCapital]
def wsL_law0_r9 : List Cond := [Cond.static yL_setCapital, Cond.codeWith yL_setCapital cL_setCapital 4 (some .int) [(0, 9, 12, 13)], Cond.methodLink RL 29 yX3_setCapital, Cond.instanceMethod yX3_setCapital, Cond.selects RX3 yX3_setCapital yX3_setCapital, Cond.code yX3_setCapital cX3_setCapital 3 (some .int), Cond.methodLink RL 102 yX4_setCapital, Cond.instanceMethod yX4_setCapital, Cond.selects RX4 yX4_setCapital yX4_setCapital, Cond.code yX4_setCapital cX4_setCapital 3 (some .int), Cond.fieldLink RX4 99 "DefaultFundModel" "capitalNow" "I", Cond.methodLink RL 103 yL_giveNotice, Cond.static yL_giveNotice, Cond.codeWith yL_giveNotice cL_giveNotice 3 (some .int) [(0, 5, 8, 21), (0, 5, 11, 15)], Cond.methodLink RL 33 yX3_giveNotice, Cond.instanceMethod yX3_giveNotice, Cond.selects RX3 yX3_giveNotice yX3_giveNotice, Cond.code yX3_giveNotice cX3_giveNotice 3 none, Cond.methodLink RX3 90 yX3_requireNoFailure, Cond.instanceMethod yX3_requireNoFailure, Cond.selects RX3 yX3_requireNoFailure yX3_requireNoFailure, Cond.code yX3_requireNoFailure cX3_requireNoFailure 1 none, Cond.methodLink RL 106 yX4_giveNotice, Cond.instanceMethod yX4_giveNotice]
def wsL_law0_r10 : List Cond := [Cond.selects RX4 yX4_giveNotice yX4_giveNotice, Cond.code yX4_giveNotice cX4_giveNotice 2 none, Cond.methodLink RL 107 yL_size, Cond.static yL_size, Cond.codeWith yL_size cL_size 3 (some .int) [(0, 8, 11, 15)], Cond.methodLink RL 37 yX3_size, Cond.instanceMethod yX3_size, Cond.selects RX3 yX3_size yX3_size, Cond.code yX3_size cX3_size 4 (some .int), Cond.methodLink RX3 93 yX3_neededFund, Cond.instanceMethod yX3_neededFund, Cond.selects RX3 yX3_neededFund yX3_neededFund, Cond.code yX3_neededFund cX3_neededFund 5 (some .int), Cond.methodLink RX3 188 Lib.Math.min.name, Cond.static Lib.Math.min.name, Cond.initialized "java/lang/Math", Cond.code Lib.Math.min.name Lib.Math.min.code 2 (some .int), Cond.methodLink RX3 150 Lib.Math.max.name, Cond.static Lib.Math.max.name, Cond.code Lib.Math.max.name Lib.Math.max.code 2 (some .int), Cond.instanceMethod yX2_enter, Cond.selects RX2 yX2_enter yX2_enter, Cond.code yX2_enter cX2_enter 4 none, Cond.instanceMethod yX2_part]
def wsL_law0_r11 : List Cond := [Cond.selects RX2 yX2_part yX2_part, Cond.code yX2_part cX2_part 6 (some .int), Cond.methodLink RX2 21 Lib.Math.min.name, Cond.methodLink RX2 27 yX2_giveCoins, Cond.instanceMethod yX2_giveCoins, Cond.selects RX2 yX2_giveCoins yX2_giveCoins, Cond.code yX2_giveCoins cX2_giveCoins 6 (some .int), Cond.methodLink RX2 31 yX2_roundsAtAStroke, Cond.instanceMethod yX2_roundsAtAStroke, Cond.selects RX2 yX2_roundsAtAStroke yX2_roundsAtAStroke, Cond.code yX2_roundsAtAStroke cX2_roundsAtAStroke 5 (some .int), Cond.methodLink RX2 38 Lib.Math.max.name, Cond.methodLink RX2 34 yX2_canTake, Cond.instanceMethod yX2_canTake, Cond.selects RX2 yX2_canTake yX2_canTake, Cond.code yX2_canTake cX2_canTake 2 (some .boolean), Cond.instanceMethod yX2_partOf, Cond.selects RX2 yX2_partOf yX2_partOf, Cond.code yX2_partOf cX2_partOf 2 (some .int), Cond.instanceMethod yX1_raiseShare, Cond.selects RX1 yX1_raiseShare yX1_raiseShare, Cond.code yX1_raiseShare cX1_raiseShare 3 (some .int), Cond.methodLink RX1 57 Lib.Math.max.name, Cond.methodLink RL 110 yX4_size]
def wsL_law0_r12 : List Cond := [Cond.instanceMethod yX4_size, Cond.selects RX4 yX4_size yX4_size, Cond.code yX4_size cX4_size 6 (some .int), Cond.constant RX4 102 (4000000), Cond.methodLink RX4 103 yX4_part, Cond.instanceMethod yX4_part, Cond.selects RX4 yX4_part yX4_part, Cond.code yX4_part cX4_part 14 (some .int), Cond.methodLink RL 111 yL_fail, Cond.static yL_fail, Cond.codeWith yL_fail cL_fail 5 (some .int) [(0, 10, 13, 21), (0, 10, 17, 13), (0, 10, 21, 15)], Cond.methodLink RL 41 yX3_fail, Cond.instanceMethod yX3_fail, Cond.selects RX3 yX3_fail yX3_fail, Cond.code yX3_fail cX3_fail 5 (some .int), Cond.methodLink RX3 122 yX3_moveClients, Cond.instanceMethod yX3_moveClients, Cond.selects RX3 yX3_moveClients yX3_moveClients, Cond.code yX3_moveClients cX3_moveClients 5 (some .int), Cond.methodLink RX3 198 yX3_findsHost, Cond.instanceMethod yX3_findsHost, Cond.selects RX3 yX3_findsHost yX3_findsHost, Cond.code yX3_findsHost cX3_findsHost 3 (some .boolean), Cond.instanceMethod yX1_dropClients]
def wsL_law0_r13 : List Cond := [Cond.selects RX1 yX1_dropClients yX1_dropClients, Cond.code yX1_dropClients cX1_dropClients 1 none, Cond.instanceMethod yX0_open, Cond.selects RX0 yX0_open yX0_open, Cond.code yX0_open cX0_open 4 none, Cond.methodLink RX0 20 Lib.Math.min.name, Cond.methodLink RL 113 yX4_fail, Cond.instanceMethod yX4_fail, Cond.selects RX4 yX4_fail yX4_fail, Cond.code yX4_fail cX4_fail 5 (some .int), Cond.fieldLink RX4 107 "DefaultFundModel" "book" "I", Cond.methodLink RX4 110 yX4_firstOf, Cond.instanceMethod yX4_firstOf, Cond.selects RX4 yX4_firstOf yX4_firstOf, Cond.code yX4_firstOf cX4_firstOf 4 (some .int), Cond.methodLink RX4 113 yX4_newOwner, Cond.instanceMethod yX4_newOwner, Cond.selects RX4 yX4_newOwner yX4_newOwner, Cond.code yX4_newOwner cX4_newOwner 3 (some .int), Cond.methodLink RL 114 yL_bid, Cond.static yL_bid, Cond.codeWith yL_bid cL_bid 5 (some .int) [(0, 7, 10, 21), (0, 7, 14, 13), (0, 7, 18, 15)], Cond.methodLink RL 44 yX3_bid, Cond.instanceMethod yX3_bid]
def wsL_law0_r14 : List Cond := [Cond.selects RX3 yX3_bid yX3_bid, Cond.code yX3_bid cX3_bid 5 none, Cond.instanceMethod yX0_hasLot, Cond.selects RX0 yX0_hasLot yX0_hasLot, Cond.code yX0_hasLot cX0_hasLot 2 (some .boolean), Cond.instanceMethod yX0_bidOf, Cond.selects RX0 yX0_bidOf yX0_bidOf, Cond.code yX0_bidOf cX0_bidOf 3 (some .int), Cond.instanceMethod yX0_enter, Cond.selects RX0 yX0_enter yX0_enter, Cond.code yX0_enter cX0_enter 4 none, Cond.methodLink RL 117 yX4_bid, Cond.instanceMethod yX4_bid, Cond.selects RX4 yX4_bid yX4_bid, Cond.code yX4_bid cX4_bid 4 none, Cond.methodLink RL 118 yL_close, Cond.static yL_close, Cond.codeWith yL_close cL_close 3 (some .int) [(0, 8, 11, 15)], Cond.methodLink RL 48 yX3_close, Cond.instanceMethod yX3_close, Cond.selects RX3 yX3_close yX3_close, Cond.code yX3_close cX3_close 2 (some .int), Cond.methodLink RX3 147 yX3_awardLots, Cond.instanceMethod yX3_awardLots]
def wsL_law0_r15 : List Cond := [Cond.selects RX3 yX3_awardLots yX3_awardLots, Cond.code yX3_awardLots cX3_awardLots 4 (some .int), Cond.instanceMethod yX0_winnerOf, Cond.selects RX0 yX0_winnerOf yX0_winnerOf, Cond.code yX0_winnerOf cX0_winnerOf 5 (some .int), Cond.methodLink RX3 155 yX3_rankBidders, Cond.instanceMethod yX3_rankBidders, Cond.selects RX3 yX3_rankBidders yX3_rankBidders, Cond.code yX3_rankBidders cX3_rankBidders 2 none, Cond.instanceMethod yX0_bidPoorly, Cond.selects RX0 yX0_bidPoorly yX0_bidPoorly, Cond.code yX0_bidPoorly cX0_bidPoorly 5 (some .boolean), Cond.methodLink RX0 26 yX0_isLow, Cond.instanceMethod yX0_isLow, Cond.selects RX0 yX0_isLow yX0_isLow, Cond.code yX0_isLow cX0_isLow 4 (some .boolean), Cond.methodLink RX0 30 yX0_winnerOf, Cond.methodLink RX3 158 yX3_eatLoss, Cond.instanceMethod yX3_eatLoss, Cond.selects RX3 yX3_eatLoss yX3_eatLoss, Cond.code yX3_eatLoss cX3_eatLoss 4 (some .int), Cond.methodLink RX3 216 yX3_eatShares, Cond.instanceMethod yX3_eatShares, Cond.selects RX3 yX3_eatShares yX3_eatShares]
def wsL_law0_r16 : List Cond := [Cond.code yX3_eatShares cX3_eatShares 6 (some .int), Cond.methodLink RX3 220 yX3_eatAssessments, Cond.instanceMethod yX3_eatAssessments, Cond.selects RX3 yX3_eatAssessments yX3_eatAssessments, Cond.code yX3_eatAssessments cX3_eatAssessments 5 (some .int), Cond.methodLink RX3 223 yX3_eatGains, Cond.instanceMethod yX3_eatGains, Cond.selects RX3 yX3_eatGains yX3_eatGains, Cond.code yX3_eatGains cX3_eatGains 4 (some .int), Cond.methodLink RX3 161 yX3_endFailure, Cond.instanceMethod yX3_endFailure, Cond.selects RX3 yX3_endFailure yX3_endFailure, Cond.code yX3_endFailure cX3_endFailure 3 none, Cond.instanceMethod yX1_loseAll, Cond.selects RX1 yX1_loseAll yX1_loseAll, Cond.code yX1_loseAll cX1_loseAll 1 none, Cond.methodLink RX1 63 yX1_dropClients, Cond.methodLink RL 120 yX4_close, Cond.instanceMethod yX4_close, Cond.selects RX4 yX4_close yX4_close, Cond.code yX4_close cX4_close 5 (some .int), Cond.fieldLink RX4 123 "DefaultFundModel" "lossNow" "I", Cond.fieldLink RX4 136 "DefaultFundModel" "uncoveredNow" "I", Cond.methodLink RX4 116 yX4_winner]
def wsL_law0_r17 : List Cond := [Cond.instanceMethod yX4_winner, Cond.selects RX4 yX4_winner yX4_winner, Cond.code yX4_winner cX4_winner 5 (some .int), Cond.methodLink RX4 119 yX4_rank, Cond.instanceMethod yX4_rank, Cond.selects RX4 yX4_rank yX4_rank, Cond.code yX4_rank cX4_rank 6 none, Cond.methodLink RX4 126 yX4_eatShares, Cond.instanceMethod yX4_eatShares, Cond.selects RX4 yX4_eatShares yX4_eatShares, Cond.code yX4_eatShares cX4_eatShares 5 (some .int), Cond.methodLink RX4 130 yX4_assess, Cond.instanceMethod yX4_assess, Cond.selects RX4 yX4_assess yX4_assess, Cond.code yX4_assess cX4_assess 4 (some .int), Cond.methodLink RX4 133 yX4_cutGains, Cond.instanceMethod yX4_cutGains, Cond.selects RX4 yX4_cutGains yX4_cutGains, Cond.code yX4_cutGains cX4_cutGains 4 (some .int), Cond.methodLink RX4 139 yX4_empty, Cond.instanceMethod yX4_empty, Cond.selects RX4 yX4_empty yX4_empty, Cond.code yX4_empty cX4_empty 4 none, Cond.methodLink RL 121 yX3_members]
def wsL_law0_r18 : List Cond := [Cond.instanceMethod yX3_members, Cond.selects RX3 yX3_members yX3_members, Cond.code yX3_members cX3_members 1 (some .int), Cond.methodLink RL 124 yX4_members, Cond.instanceMethod yX4_members, Cond.selects RX4 yX4_members yX4_members, Cond.code yX4_members cX4_members 1 (some .int), Cond.methodLink RL 125 yL_state, Cond.static yL_state, Cond.codeWith yL_state cL_state 4 (some .int) [(0, 9, 12, 21)], Cond.methodLink RL 51 yX3_state, Cond.instanceMethod yX3_state, Cond.selects RX3 yX3_state yX3_state, Cond.code yX3_state cX3_state 2 (some .int), Cond.methodLink RL 127 yX4_state, Cond.instanceMethod yX4_state, Cond.selects RX4 yX4_state yX4_state, Cond.code yX4_state cX4_state 2 (some .int), Cond.methodLink RL 128 yL_margin, Cond.static yL_margin, Cond.codeWith yL_margin cL_margin 4 (some .int) [(0, 9, 12, 21)], Cond.methodLink RL 54 yX3_margin, Cond.instanceMethod yX3_margin, Cond.selects RX3 yX3_margin yX3_margin]
def wsL_law0_r19 : List Cond := [Cond.code yX3_margin cX3_margin 2 (some .int), Cond.methodLink RL 130 yX4_margin, Cond.instanceMethod yX4_margin, Cond.selects RX4 yX4_margin yX4_margin, Cond.code yX4_margin cX4_margin 2 (some .int), Cond.methodLink RL 131 yL_share, Cond.static yL_share, Cond.codeWith yL_share cL_share 4 (some .int) [(0, 9, 12, 21)], Cond.methodLink RL 57 yX3_share, Cond.instanceMethod yX3_share, Cond.selects RX3 yX3_share yX3_share, Cond.code yX3_share cX3_share 2 (some .int), Cond.methodLink RL 133 yX4_share, Cond.instanceMethod yX4_share, Cond.selects RX4 yX4_share yX4_share, Cond.code yX4_share cX4_share 2 (some .int), Cond.methodLink RL 134 yL_gain, Cond.static yL_gain, Cond.codeWith yL_gain cL_gain 4 (some .int) [(0, 9, 12, 21)], Cond.methodLink RL 60 yX3_gain, Cond.instanceMethod yX3_gain, Cond.selects RX3 yX3_gain yX3_gain, Cond.code yX3_gain cX3_gain 2 (some .int), Cond.methodLink RL 136 yX4_gain]
def wsL_law0_r20 : List Cond := [Cond.instanceMethod yX4_gain, Cond.selects RX4 yX4_gain yX4_gain, Cond.code yX4_gain cX4_gain 2 (some .int), Cond.methodLink RL 137 yL_isJunior, Cond.static yL_isJunior, Cond.codeWith yL_isJunior cL_isJunior 4 (some .int) [(0, 16, 19, 21)], Cond.methodLink RL 63 yX3_isJunior, Cond.instanceMethod yX3_isJunior, Cond.selects RX3 yX3_isJunior yX3_isJunior, Cond.code yX3_isJunior cX3_isJunior 2 (some .boolean), Cond.methodLink RL 139 yX4_isJunior, Cond.instanceMethod yX4_isJunior, Cond.selects RX4 yX4_isJunior yX4_isJunior, Cond.code yX4_isJunior cX4_isJunior 2 (some .boolean), Cond.methodLink RL 140 yL_assessed, Cond.static yL_assessed, Cond.codeWith yL_assessed cL_assessed 4 (some .int) [(0, 9, 12, 21)], Cond.methodLink RL 67 yX3_assessed, Cond.instanceMethod yX3_assessed, Cond.selects RX3 yX3_assessed yX3_assessed, Cond.code yX3_assessed cX3_assessed 2 (some .int), Cond.methodLink RL 142 yX4_assessed, Cond.instanceMethod yX4_assessed, Cond.selects RX4 yX4_assessed yX4_assessed]
def wsL_law0_r21 : List Cond := [Cond.code yX4_assessed cX4_assessed 2 (some .int), Cond.methodLink RL 143 yL_clientLots, Cond.static yL_clientLots, Cond.codeWith yL_clientLots cL_clientLots 4 (some .int) [(0, 9, 12, 21)], Cond.methodLink RL 70 yX3_clientLots, Cond.instanceMethod yX3_clientLots, Cond.selects RX3 yX3_clientLots yX3_clientLots, Cond.code yX3_clientLots cX3_clientLots 2 (some .int), Cond.methodLink RL 145 yX4_clientLots, Cond.instanceMethod yX4_clientLots, Cond.selects RX4 yX4_clientLots yX4_clientLots, Cond.code yX4_clientLots cX4_clientLots 2 (some .int), Cond.methodLink RL 146 yL_won, Cond.static yL_won, Cond.codeWith yL_won cL_won 4 (some .int) [(0, 9, 12, 21)], Cond.methodLink RL 73 yX3_won, Cond.instanceMethod yX3_won, Cond.selects RX3 yX3_won yX3_won, Cond.code yX3_won cX3_won 2 (some .int), Cond.methodLink RL 148 yX4_won, Cond.instanceMethod yX4_won, Cond.selects RX4 yX4_won yX4_won, Cond.code yX4_won cX4_won 2 (some .int), Cond.methodLink RL 149 yX3_capital]
def wsL_law0_r22 : List Cond := [Cond.instanceMethod yX3_capital, Cond.selects RX3 yX3_capital yX3_capital, Cond.code yX3_capital cX3_capital 1 (some .int), Cond.methodLink RL 152 yX4_capital, Cond.instanceMethod yX4_capital, Cond.selects RX4 yX4_capital yX4_capital, Cond.code yX4_capital cX4_capital 1 (some .int), Cond.methodLink RL 153 yX3_loss, Cond.instanceMethod yX3_loss, Cond.selects RX3 yX3_loss yX3_loss, Cond.code yX3_loss cX3_loss 1 (some .int), Cond.methodLink RL 156 yX4_loss, Cond.instanceMethod yX4_loss, Cond.selects RX4 yX4_loss yX4_loss, Cond.code yX4_loss cX4_loss 1 (some .int), Cond.methodLink RL 157 yX3_uncovered, Cond.instanceMethod yX3_uncovered, Cond.selects RX3 yX3_uncovered yX3_uncovered, Cond.code yX3_uncovered cX3_uncovered 1 (some .int), Cond.methodLink RL 160 yX4_uncovered, Cond.instanceMethod yX4_uncovered, Cond.selects RX4 yX4_uncovered yX4_uncovered, Cond.code yX4_uncovered cX4_uncovered 1 (some .int), Cond.methodLink RL 161 yX3_failing]
def wsL_law0_r23 : List Cond := [Cond.instanceMethod yX3_failing, Cond.selects RX3 yX3_failing yX3_failing, Cond.code yX3_failing cX3_failing 1 (some .int), Cond.methodLink RL 164 yX4_failing, Cond.instanceMethod yX4_failing, Cond.selects RX4 yX4_failing yX4_failing, Cond.code yX4_failing cX4_failing 1 (some .int)]
def wsL_law0 : List Cond := (wsL_law0_r1 ++ (wsL_law0_r2 ++ (wsL_law0_r3 ++ (wsL_law0_r4 ++ (wsL_law0_r5 ++ (wsL_law0_r6 ++ (wsL_law0_r7 ++ (wsL_law0_r8 ++ (wsL_law0_r9 ++ (wsL_law0_r10 ++ (wsL_law0_r11 ++ (wsL_law0_r12 ++ (wsL_law0_r13 ++ (wsL_law0_r14 ++ (wsL_law0_r15 ++ (wsL_law0_r16 ++ (wsL_law0_r17 ++ (wsL_law0_r18 ++ (wsL_law0_r19 ++ (wsL_law0_r20 ++ (wsL_law0_r21 ++ (wsL_law0_r22 ++ wsL_law0_r23)))))))))))))))))))))) ++ wsX30 ++ wsX40 ++ wsX00 ++ wsX20 ++ wsX10 ++ ([] : List Cond)
def wsL_law : List Cond := wsL_law0 ++ (vx_atS RX3 55 "java/lang/IllegalStateException" ["java/lang/RuntimeException", "java/lang/Exception"]).filter goodWord ++ (vx_atS RX3 183 "java/lang/IllegalArgumentException" ["java/lang/RuntimeException", "java/lang/Exception"]).filter goodWord ++ (vx_atS RX3 137 "java/lang/IndexOutOfBoundsException" ["java/lang/RuntimeException", "java/lang/Exception"]).filter goodWord
set_option maxRecDepth 20000 in
theorem wsL_law_in0 : ∀ w ∈ wsL_law0, w ∈ lw_tbl := fun w h => (goodIn_p wsL_law0 [64, 67, 74, 91, 106, 593, 213, 217, 305, 681, 685, 689, 677, 313, 317, 336, 340, 345, 349, 693, 697, 701, 705, 709, 358, 713, 365, 717, 372, 721, 379, 384, 725, 392, 396, 399, 402, 406, 410, 415, 419, 423, 428, 432, 729, 734, 440, 444, 448, 452, 456, 738, 742, 746, 464, 468, 473, 478, 750, 485, 490, 494, 498, 502, 506, 511, 515, 519, 523, 527, 531, 754, 758, 762, 766, 770, 774, 778, 188, 782, 539, 786, 546, 790, 553, 794, 560, 798, 567, 802, 574, 806, 581, 810, 588, 814, 192, 818, 196, 822, 200, 826, 204, 830] (by decide +kernel) (by decide +kernel) w h).1
theorem wsL_law_x0 : ∀ w ∈ (vx_atS RX3 55 "java/lang/IllegalStateException" ["java/lang/RuntimeException", "java/lang/Exception"]).filter goodWord, w ∈ lw_tbl := by decide +kernel
theorem wsL_law_x1 : ∀ w ∈ (vx_atS RX3 183 "java/lang/IllegalArgumentException" ["java/lang/RuntimeException", "java/lang/Exception"]).filter goodWord, w ∈ lw_tbl := by decide +kernel
theorem wsL_law_x2 : ∀ w ∈ (vx_atS RX3 137 "java/lang/IndexOutOfBoundsException" ["java/lang/RuntimeException", "java/lang/Exception"]).filter goodWord, w ∈ lw_tbl := by decide +kernel
theorem wsL_law_in : ∀ w ∈ wsL_law, w ∈ lw_tbl := fun w h => (List.mem_append.mp h).elim (fun h => (List.mem_append.mp h).elim (fun h => (List.mem_append.mp h).elim (fun h => wsL_law_in0 w h) (fun h => wsL_law_x0 w h)) (fun h => wsL_law_x1 w h)) (fun h => wsL_law_x2 w h)
theorem inlX0 : ∀ w ∈ wsX00, w ∈ wsL_law := fun _ h => List.mem_append_left _ (List.mem_append_left _ (List.mem_append_left _ (List.mem_append_left _ (List.mem_append_left _ (List.mem_append_left _ (List.mem_append_right _ h))))))
theorem inX0 : ∀ w ∈ wsX00, w ∈ lw_tbl := fun w h => wsL_law_in w (inlX0 w h)
theorem inlX1 : ∀ w ∈ wsX10, w ∈ wsL_law := fun _ h => List.mem_append_left _ (List.mem_append_left _ (List.mem_append_left _ (List.mem_append_left _ (List.mem_append_right _ h))))
theorem inX1 : ∀ w ∈ wsX10, w ∈ lw_tbl := fun w h => wsL_law_in w (inlX1 w h)
theorem inlX2 : ∀ w ∈ wsX20, w ∈ wsL_law := fun _ h => List.mem_append_left _ (List.mem_append_left _ (List.mem_append_left _ (List.mem_append_left _ (List.mem_append_left _ (List.mem_append_right _ h)))))
theorem inX2 : ∀ w ∈ wsX20, w ∈ lw_tbl := fun w h => wsL_law_in w (inlX2 w h)
theorem inlX3 : ∀ w ∈ wsX30, w ∈ wsL_law := fun _ h => List.mem_append_left _ (List.mem_append_left _ (List.mem_append_left _ (List.mem_append_left _ (List.mem_append_left _ (List.mem_append_left _ (List.mem_append_left _ (List.mem_append_left _ (List.mem_append_right _ h))))))))
theorem inX3 : ∀ w ∈ wsX30, w ∈ lw_tbl := fun w h => wsL_law_in w (inlX3 w h)
theorem inlX4 : ∀ w ∈ wsX40, w ∈ wsL_law := fun _ h => List.mem_append_left _ (List.mem_append_left _ (List.mem_append_left _ (List.mem_append_left _ (List.mem_append_left _ (List.mem_append_left _ (List.mem_append_left _ (List.mem_append_right _ h)))))))
theorem inX4 : ∀ w ∈ wsX40, w ∈ lw_tbl := fun w h => wsL_law_in w (inlX4 w h)
theorem inJ9 : ∀ w ∈ wsJ90, w ∈ lw_tbl := by decide +kernel
theorem inJ0 : ∀ w ∈ wsJ00, w ∈ lw_tbl := by decide +kernel
theorem dX0_init_0 : decode cX0_init 0 = .ok (.aload_n 0, 1) := by decide +kernel
theorem dX0_init_1 : decode cX0_init 1 = .ok (.invokespecial 3, 3) := by decide +kernel
theorem dX0_init_4 : decode cX0_init 4 = .ok (.aload_n 0, 1) := by decide +kernel
theorem dX0_init_5 : decode cX0_init 5 = .ok (.bipush 10, 2) := by decide +kernel
theorem dX0_init_7 : decode cX0_init 7 = .ok (.bipush 120, 2) := by decide +kernel
theorem dX0_init_9 : decode cX0_init 9 = .ok (.multianewarray 9 2, 4) := by decide +kernel
theorem dX0_init_13 : decode cX0_init 13 = .ok (.putfield 11, 3) := by decide +kernel
theorem dX0_init_16 : decode cX0_init 16 = .ok (.aload_n 0, 1) := by decide +kernel
theorem dX0_init_17 : decode cX0_init 17 = .ok (.iconst 0, 1) := by decide +kernel
theorem dX0_init_18 : decode cX0_init 18 = .ok (.putfield 16, 3) := by decide +kernel
theorem dX0_init_21 : decode cX0_init 21 = .ok (.return_, 1) := by decide +kernel
theorem dX0_open_0 : decode cX0_open 0 = .ok (.aload_n 0, 1) := by decide +kernel
theorem dX0_open_1 : decode cX0_open 1 = .ok (.iload_n 1, 1) := by decide +kernel
theorem dX0_open_2 : decode cX0_open 2 = .ok (.bipush 120, 2) := by decide +kernel
theorem dX0_open_4 : decode cX0_open 4 = .ok (.invokestatic 20, 3) := by decide +kernel
theorem dX0_open_7 : decode cX0_open 7 = .ok (.putfield 16, 3) := by decide +kernel
theorem dX0_open_10 : decode cX0_open 10 = .ok (.iconst 0, 1) := by decide +kernel
theorem dX0_open_11 : decode cX0_open 11 = .ok (.istore_n 2, 1) := by decide +kernel
theorem dX0_open_12 : decode cX0_open 12 = .ok (.iload_n 2, 1) := by decide +kernel
theorem dX0_open_13 : decode cX0_open 13 = .ok (.bipush 10, 2) := by decide +kernel
theorem dX0_open_15 : decode cX0_open 15 = .ok (.if_icmp .ge 36, 3) := by decide +kernel
theorem dX0_open_18 : decode cX0_open 18 = .ok (.iconst 0, 1) := by decide +kernel
theorem dX0_open_19 : decode cX0_open 19 = .ok (.istore_n 3, 1) := by decide +kernel
theorem dX0_open_20 : decode cX0_open 20 = .ok (.iload_n 3, 1) := by decide +kernel
theorem dX0_open_21 : decode cX0_open 21 = .ok (.aload_n 0, 1) := by decide +kernel
theorem dX0_open_22 : decode cX0_open 22 = .ok (.getfield 16, 3) := by decide +kernel
theorem dX0_open_25 : decode cX0_open 25 = .ok (.if_icmp .ge 20, 3) := by decide +kernel
theorem dX0_open_28 : decode cX0_open 28 = .ok (.aload_n 0, 1) := by decide +kernel
theorem dX0_open_29 : decode cX0_open 29 = .ok (.getfield 11, 3) := by decide +kernel
theorem dX0_open_32 : decode cX0_open 32 = .ok (.iload_n 2, 1) := by decide +kernel
theorem dX0_open_33 : decode cX0_open 33 = .ok (.aaload, 1) := by decide +kernel
theorem dX0_open_34 : decode cX0_open 34 = .ok (.iload_n 3, 1) := by decide +kernel
theorem dX0_open_35 : decode cX0_open 35 = .ok (.sipush (-1001), 3) := by decide +kernel
theorem dX0_open_38 : decode cX0_open 38 = .ok (.iastore, 1) := by decide +kernel
theorem dX0_open_39 : decode cX0_open 39 = .ok (.iinc 3 1, 3) := by decide +kernel
theorem dX0_open_42 : decode cX0_open 42 = .ok (.goto (-22), 3) := by decide +kernel
theorem dX0_open_45 : decode cX0_open 45 = .ok (.iinc 2 1, 3) := by decide +kernel
theorem dX0_open_48 : decode cX0_open 48 = .ok (.goto (-36), 3) := by decide +kernel
theorem dX0_open_51 : decode cX0_open 51 = .ok (.return_, 1) := by decide +kernel
theorem dX0_hasLot_0 : decode cX0_hasLot 0 = .ok (.iload_n 1, 1) := by decide +kernel
theorem dX0_hasLot_1 : decode cX0_hasLot 1 = .ok (.ifCond .lt 15, 3) := by decide +kernel
theorem dX0_hasLot_4 : decode cX0_hasLot 4 = .ok (.iload_n 1, 1) := by decide +kernel
theorem dX0_hasLot_5 : decode cX0_hasLot 5 = .ok (.aload_n 0, 1) := by decide +kernel
theorem dX0_hasLot_6 : decode cX0_hasLot 6 = .ok (.getfield 16, 3) := by decide +kernel
theorem dX0_hasLot_9 : decode cX0_hasLot 9 = .ok (.if_icmp .ge 7, 3) := by decide +kernel
theorem dX0_hasLot_12 : decode cX0_hasLot 12 = .ok (.iconst 1, 1) := by decide +kernel
theorem dX0_hasLot_13 : decode cX0_hasLot 13 = .ok (.goto 4, 3) := by decide +kernel
theorem dX0_hasLot_16 : decode cX0_hasLot 16 = .ok (.iconst 0, 1) := by decide +kernel
theorem dX0_hasLot_17 : decode cX0_hasLot 17 = .ok (.ireturn, 1) := by decide +kernel
theorem dX0_bidOf_0 : decode cX0_bidOf 0 = .ok (.aload_n 0, 1) := by decide +kernel
theorem dX0_bidOf_1 : decode cX0_bidOf 1 = .ok (.getfield 11, 3) := by decide +kernel
theorem dX0_bidOf_4 : decode cX0_bidOf 4 = .ok (.iload_n 1, 1) := by decide +kernel
theorem dX0_bidOf_5 : decode cX0_bidOf 5 = .ok (.aaload, 1) := by decide +kernel
theorem dX0_bidOf_6 : decode cX0_bidOf 6 = .ok (.iload_n 2, 1) := by decide +kernel
theorem dX0_bidOf_7 : decode cX0_bidOf 7 = .ok (.iaload, 1) := by decide +kernel
theorem dX0_bidOf_8 : decode cX0_bidOf 8 = .ok (.ireturn, 1) := by decide +kernel
theorem dX0_enter_0 : decode cX0_enter 0 = .ok (.aload_n 0, 1) := by decide +kernel
theorem dX0_enter_1 : decode cX0_enter 1 = .ok (.getfield 11, 3) := by decide +kernel
theorem dX0_enter_4 : decode cX0_enter 4 = .ok (.iload_n 1, 1) := by decide +kernel
theorem dX0_enter_5 : decode cX0_enter 5 = .ok (.aaload, 1) := by decide +kernel
theorem dX0_enter_6 : decode cX0_enter 6 = .ok (.iload_n 2, 1) := by decide +kernel
theorem dX0_enter_7 : decode cX0_enter 7 = .ok (.iload_n 3, 1) := by decide +kernel
theorem dX0_enter_8 : decode cX0_enter 8 = .ok (.iastore, 1) := by decide +kernel
theorem dX0_enter_9 : decode cX0_enter 9 = .ok (.return_, 1) := by decide +kernel
theorem dX0_winnerOf_0 : decode cX0_winnerOf 0 = .ok (.iconst (-1), 1) := by decide +kernel
theorem dX0_winnerOf_1 : decode cX0_winnerOf 1 = .ok (.istore_n 2, 1) := by decide +kernel
theorem dX0_winnerOf_2 : decode cX0_winnerOf 2 = .ok (.sipush (-1001), 3) := by decide +kernel
theorem dX0_winnerOf_5 : decode cX0_winnerOf 5 = .ok (.istore_n 3, 1) := by decide +kernel
theorem dX0_winnerOf_6 : decode cX0_winnerOf 6 = .ok (.iconst 0, 1) := by decide +kernel
theorem dX0_winnerOf_7 : decode cX0_winnerOf 7 = .ok (.istore 4, 2) := by decide +kernel
theorem dX0_winnerOf_9 : decode cX0_winnerOf 9 = .ok (.iload 4, 2) := by decide +kernel
theorem dX0_winnerOf_11 : decode cX0_winnerOf 11 = .ok (.bipush 10, 2) := by decide +kernel
theorem dX0_winnerOf_13 : decode cX0_winnerOf 13 = .ok (.if_icmp .ge 35, 3) := by decide +kernel
theorem dX0_winnerOf_16 : decode cX0_winnerOf 16 = .ok (.aload_n 0, 1) := by decide +kernel
theorem dX0_winnerOf_17 : decode cX0_winnerOf 17 = .ok (.getfield 11, 3) := by decide +kernel
theorem dX0_winnerOf_20 : decode cX0_winnerOf 20 = .ok (.iload 4, 2) := by decide +kernel
theorem dX0_winnerOf_22 : decode cX0_winnerOf 22 = .ok (.aaload, 1) := by decide +kernel
theorem dX0_winnerOf_23 : decode cX0_winnerOf 23 = .ok (.iload_n 1, 1) := by decide +kernel
theorem dX0_winnerOf_24 : decode cX0_winnerOf 24 = .ok (.iaload, 1) := by decide +kernel
theorem dX0_winnerOf_25 : decode cX0_winnerOf 25 = .ok (.iload_n 3, 1) := by decide +kernel
theorem dX0_winnerOf_26 : decode cX0_winnerOf 26 = .ok (.if_icmp .le 16, 3) := by decide +kernel
theorem dX0_winnerOf_29 : decode cX0_winnerOf 29 = .ok (.aload_n 0, 1) := by decide +kernel
theorem dX0_winnerOf_30 : decode cX0_winnerOf 30 = .ok (.getfield 11, 3) := by decide +kernel
theorem dX0_winnerOf_33 : decode cX0_winnerOf 33 = .ok (.iload 4, 2) := by decide +kernel
theorem dX0_winnerOf_35 : decode cX0_winnerOf 35 = .ok (.aaload, 1) := by decide +kernel
theorem dX0_winnerOf_36 : decode cX0_winnerOf 36 = .ok (.iload_n 1, 1) := by decide +kernel
theorem dX0_winnerOf_37 : decode cX0_winnerOf 37 = .ok (.iaload, 1) := by decide +kernel
theorem dX0_winnerOf_38 : decode cX0_winnerOf 38 = .ok (.istore_n 3, 1) := by decide +kernel
theorem dX0_winnerOf_39 : decode cX0_winnerOf 39 = .ok (.iload 4, 2) := by decide +kernel
theorem dX0_winnerOf_41 : decode cX0_winnerOf 41 = .ok (.istore_n 2, 1) := by decide +kernel
theorem dX0_winnerOf_42 : decode cX0_winnerOf 42 = .ok (.iinc 4 1, 3) := by decide +kernel
theorem dX0_winnerOf_45 : decode cX0_winnerOf 45 = .ok (.goto (-36), 3) := by decide +kernel
theorem dX0_winnerOf_48 : decode cX0_winnerOf 48 = .ok (.iload_n 2, 1) := by decide +kernel
theorem dX0_winnerOf_49 : decode cX0_winnerOf 49 = .ok (.ireturn, 1) := by decide +kernel
set_option maxRecDepth 20000 in
theorem ggX0_bidPoorly_X0_isLow : GoodIn wsX0_bidPoorly wsX0_isLow := goodIn_r _ [7, 2, 8, 9, 10, 6, 11, 12, 13] (by decide +kernel) (by decide +kernel)
set_option maxRecDepth 20000 in
theorem gX0_bidPoorly_X0_isLow : GoodIn wsX0_bidPoorly (wsV RX0 26 RX0 yX0_isLow wsX0_isLow) := goodIn_app (goodIn_of _ (by decide +kernel)) ggX0_bidPoorly_X0_isLow
theorem dX0_bidPoorly_0 : decode cX0_bidPoorly 0 = .ok (.iconst 0, 1) := by decide +kernel
theorem dX0_bidPoorly_1 : decode cX0_bidPoorly 1 = .ok (.istore_n 2, 1) := by decide +kernel
theorem dX0_bidPoorly_2 : decode cX0_bidPoorly 2 = .ok (.iconst 0, 1) := by decide +kernel
theorem dX0_bidPoorly_3 : decode cX0_bidPoorly 3 = .ok (.istore_n 3, 1) := by decide +kernel
theorem dX0_bidPoorly_4 : decode cX0_bidPoorly 4 = .ok (.iconst 0, 1) := by decide +kernel
theorem dX0_bidPoorly_5 : decode cX0_bidPoorly 5 = .ok (.istore 4, 2) := by decide +kernel
theorem dX0_bidPoorly_7 : decode cX0_bidPoorly 7 = .ok (.iload 4, 2) := by decide +kernel
theorem dX0_bidPoorly_9 : decode cX0_bidPoorly 9 = .ok (.aload_n 0, 1) := by decide +kernel
theorem dX0_bidPoorly_10 : decode cX0_bidPoorly 10 = .ok (.getfield 16, 3) := by decide +kernel
theorem dX0_bidPoorly_13 : decode cX0_bidPoorly 13 = .ok (.if_icmp .ge 45, 3) := by decide +kernel
theorem dX0_bidPoorly_16 : decode cX0_bidPoorly 16 = .ok (.aload_n 0, 1) := by decide +kernel
theorem dX0_bidPoorly_17 : decode cX0_bidPoorly 17 = .ok (.getfield 11, 3) := by decide +kernel
theorem dX0_bidPoorly_20 : decode cX0_bidPoorly 20 = .ok (.iload_n 1, 1) := by decide +kernel
theorem dX0_bidPoorly_21 : decode cX0_bidPoorly 21 = .ok (.aaload, 1) := by decide +kernel
theorem dX0_bidPoorly_22 : decode cX0_bidPoorly 22 = .ok (.iload 4, 2) := by decide +kernel
theorem dX0_bidPoorly_24 : decode cX0_bidPoorly 24 = .ok (.iaload, 1) := by decide +kernel
theorem dX0_bidPoorly_25 : decode cX0_bidPoorly 25 = .ok (.sipush (-1001), 3) := by decide +kernel
theorem dX0_bidPoorly_28 : decode cX0_bidPoorly 28 = .ok (.if_icmp .eq 24, 3) := by decide +kernel
theorem dX0_bidPoorly_31 : decode cX0_bidPoorly 31 = .ok (.iinc 2 1, 3) := by decide +kernel
theorem dX0_bidPoorly_34 : decode cX0_bidPoorly 34 = .ok (.iload_n 3, 1) := by decide +kernel
theorem dX0_bidPoorly_35 : decode cX0_bidPoorly 35 = .ok (.aload_n 0, 1) := by decide +kernel
theorem dX0_bidPoorly_36 : decode cX0_bidPoorly 36 = .ok (.iload_n 1, 1) := by decide +kernel
theorem dX0_bidPoorly_37 : decode cX0_bidPoorly 37 = .ok (.iload 4, 2) := by decide +kernel
theorem dX0_bidPoorly_39 : decode cX0_bidPoorly 39 = .ok (.invokevirtual 26, 3) := by decide +kernel
theorem dX0_bidPoorly_42 : decode cX0_bidPoorly 42 = .ok (.ifCond .eq 7, 3) := by decide +kernel
theorem dX0_bidPoorly_45 : decode cX0_bidPoorly 45 = .ok (.iconst 1, 1) := by decide +kernel
theorem dX0_bidPoorly_46 : decode cX0_bidPoorly 46 = .ok (.goto 4, 3) := by decide +kernel
theorem dX0_bidPoorly_49 : decode cX0_bidPoorly 49 = .ok (.iconst 0, 1) := by decide +kernel
theorem dX0_bidPoorly_50 : decode cX0_bidPoorly 50 = .ok (.iadd, 1) := by decide +kernel
theorem dX0_bidPoorly_51 : decode cX0_bidPoorly 51 = .ok (.istore_n 3, 1) := by decide +kernel
theorem dX0_bidPoorly_52 : decode cX0_bidPoorly 52 = .ok (.iinc 4 1, 3) := by decide +kernel
theorem dX0_bidPoorly_55 : decode cX0_bidPoorly 55 = .ok (.goto (-48), 3) := by decide +kernel
theorem dX0_bidPoorly_58 : decode cX0_bidPoorly 58 = .ok (.iconst 2, 1) := by decide +kernel
theorem dX0_bidPoorly_59 : decode cX0_bidPoorly 59 = .ok (.iload_n 2, 1) := by decide +kernel
theorem dX0_bidPoorly_60 : decode cX0_bidPoorly 60 = .ok (.imul, 1) := by decide +kernel
theorem dX0_bidPoorly_61 : decode cX0_bidPoorly 61 = .ok (.aload_n 0, 1) := by decide +kernel
theorem dX0_bidPoorly_62 : decode cX0_bidPoorly 62 = .ok (.getfield 16, 3) := by decide +kernel
theorem dX0_bidPoorly_65 : decode cX0_bidPoorly 65 = .ok (.if_icmp .lt 10, 3) := by decide +kernel
theorem dX0_bidPoorly_68 : decode cX0_bidPoorly 68 = .ok (.iconst 2, 1) := by decide +kernel
theorem dX0_bidPoorly_69 : decode cX0_bidPoorly 69 = .ok (.iload_n 3, 1) := by decide +kernel
theorem dX0_bidPoorly_70 : decode cX0_bidPoorly 70 = .ok (.imul, 1) := by decide +kernel
theorem dX0_bidPoorly_71 : decode cX0_bidPoorly 71 = .ok (.iload_n 2, 1) := by decide +kernel
theorem dX0_bidPoorly_72 : decode cX0_bidPoorly 72 = .ok (.if_icmp .le 7, 3) := by decide +kernel
theorem dX0_bidPoorly_75 : decode cX0_bidPoorly 75 = .ok (.iconst 1, 1) := by decide +kernel
theorem dX0_bidPoorly_76 : decode cX0_bidPoorly 76 = .ok (.goto 4, 3) := by decide +kernel
theorem dX0_bidPoorly_79 : decode cX0_bidPoorly 79 = .ok (.iconst 0, 1) := by decide +kernel
theorem dX0_bidPoorly_80 : decode cX0_bidPoorly 80 = .ok (.ireturn, 1) := by decide +kernel
set_option maxRecDepth 20000 in
theorem ggX0_isLow_X0_winnerOf : GoodIn wsX0_isLow wsX0_winnerOf := goodIn_r _ [6, 1, 7, 8] (by decide +kernel) (by decide +kernel)
set_option maxRecDepth 20000 in
theorem gX0_isLow_X0_winnerOf : GoodIn wsX0_isLow (wsV RX0 30 RX0 yX0_winnerOf wsX0_winnerOf) := goodIn_app (goodIn_of _ (by decide +kernel)) ggX0_isLow_X0_winnerOf
theorem dX0_isLow_0 : decode cX0_isLow 0 = .ok (.aload_n 0, 1) := by decide +kernel
theorem dX0_isLow_1 : decode cX0_isLow 1 = .ok (.iload_n 2, 1) := by decide +kernel
theorem dX0_isLow_2 : decode cX0_isLow 2 = .ok (.invokevirtual 30, 3) := by decide +kernel
theorem dX0_isLow_5 : decode cX0_isLow 5 = .ok (.istore_n 3, 1) := by decide +kernel
theorem dX0_isLow_6 : decode cX0_isLow 6 = .ok (.iload_n 3, 1) := by decide +kernel
theorem dX0_isLow_7 : decode cX0_isLow 7 = .ok (.iconst (-1), 1) := by decide +kernel
theorem dX0_isLow_8 : decode cX0_isLow 8 = .ok (.if_icmp .eq 29, 3) := by decide +kernel
theorem dX0_isLow_11 : decode cX0_isLow 11 = .ok (.aload_n 0, 1) := by decide +kernel
theorem dX0_isLow_12 : decode cX0_isLow 12 = .ok (.getfield 11, 3) := by decide +kernel
theorem dX0_isLow_15 : decode cX0_isLow 15 = .ok (.iload_n 3, 1) := by decide +kernel
theorem dX0_isLow_16 : decode cX0_isLow 16 = .ok (.aaload, 1) := by decide +kernel
theorem dX0_isLow_17 : decode cX0_isLow 17 = .ok (.iload_n 2, 1) := by decide +kernel
theorem dX0_isLow_18 : decode cX0_isLow 18 = .ok (.iaload, 1) := by decide +kernel
theorem dX0_isLow_19 : decode cX0_isLow 19 = .ok (.aload_n 0, 1) := by decide +kernel
theorem dX0_isLow_20 : decode cX0_isLow 20 = .ok (.getfield 11, 3) := by decide +kernel
theorem dX0_isLow_23 : decode cX0_isLow 23 = .ok (.iload_n 1, 1) := by decide +kernel
theorem dX0_isLow_24 : decode cX0_isLow 24 = .ok (.aaload, 1) := by decide +kernel
theorem dX0_isLow_25 : decode cX0_isLow 25 = .ok (.iload_n 2, 1) := by decide +kernel
theorem dX0_isLow_26 : decode cX0_isLow 26 = .ok (.iaload, 1) := by decide +kernel
theorem dX0_isLow_27 : decode cX0_isLow 27 = .ok (.isub, 1) := by decide +kernel
theorem dX0_isLow_28 : decode cX0_isLow 28 = .ok (.bipush 100, 2) := by decide +kernel
theorem dX0_isLow_30 : decode cX0_isLow 30 = .ok (.if_icmp .le 7, 3) := by decide +kernel
theorem dX0_isLow_33 : decode cX0_isLow 33 = .ok (.iconst 1, 1) := by decide +kernel
theorem dX0_isLow_34 : decode cX0_isLow 34 = .ok (.goto 4, 3) := by decide +kernel
theorem dX0_isLow_37 : decode cX0_isLow 37 = .ok (.iconst 0, 1) := by decide +kernel
theorem dX0_isLow_38 : decode cX0_isLow 38 = .ok (.ireturn, 1) := by decide +kernel
theorem dX1_init_0 : decode cX1_init 0 = .ok (.aload_n 0, 1) := by decide +kernel
theorem dX1_init_1 : decode cX1_init 1 = .ok (.invokespecial 3, 3) := by decide +kernel
theorem dX1_init_4 : decode cX1_init 4 = .ok (.aload_n 0, 1) := by decide +kernel
theorem dX1_init_5 : decode cX1_init 5 = .ok (.bipush 100, 2) := by decide +kernel
theorem dX1_init_7 : decode cX1_init 7 = .ok (.newarray .int, 2) := by decide +kernel
theorem dX1_init_9 : decode cX1_init 9 = .ok (.putfield 9, 3) := by decide +kernel
theorem dX1_init_12 : decode cX1_init 12 = .ok (.aload_n 0, 1) := by decide +kernel
theorem dX1_init_13 : decode cX1_init 13 = .ok (.iconst 0, 1) := by decide +kernel
theorem dX1_init_14 : decode cX1_init 14 = .ok (.putfield 15, 3) := by decide +kernel
theorem dX1_init_17 : decode cX1_init 17 = .ok (.aload_n 0, 1) := by decide +kernel
theorem dX1_init_18 : decode cX1_init 18 = .ok (.iconst 0, 1) := by decide +kernel
theorem dX1_init_19 : decode cX1_init 19 = .ok (.putfield 19, 3) := by decide +kernel
theorem dX1_init_22 : decode cX1_init 22 = .ok (.aload_n 0, 1) := by decide +kernel
theorem dX1_init_23 : decode cX1_init 23 = .ok (.iconst 0, 1) := by decide +kernel
theorem dX1_init_24 : decode cX1_init 24 = .ok (.putfield 22, 3) := by decide +kernel
theorem dX1_init_27 : decode cX1_init 27 = .ok (.aload_n 0, 1) := by decide +kernel
theorem dX1_init_28 : decode cX1_init 28 = .ok (.iconst 0, 1) := by decide +kernel
theorem dX1_init_29 : decode cX1_init 29 = .ok (.putfield 25, 3) := by decide +kernel
theorem dX1_init_32 : decode cX1_init 32 = .ok (.aload_n 0, 1) := by decide +kernel
theorem dX1_init_33 : decode cX1_init 33 = .ok (.iconst 0, 1) := by decide +kernel
theorem dX1_init_34 : decode cX1_init 34 = .ok (.putfield 28, 3) := by decide +kernel
theorem dX1_init_37 : decode cX1_init 37 = .ok (.aload_n 0, 1) := by decide +kernel
theorem dX1_init_38 : decode cX1_init 38 = .ok (.iconst 0, 1) := by decide +kernel
theorem dX1_init_39 : decode cX1_init 39 = .ok (.putfield 31, 3) := by decide +kernel
theorem dX1_init_42 : decode cX1_init 42 = .ok (.aload_n 0, 1) := by decide +kernel
theorem dX1_init_43 : decode cX1_init 43 = .ok (.iconst 0, 1) := by decide +kernel
theorem dX1_init_44 : decode cX1_init 44 = .ok (.putfield 34, 3) := by decide +kernel
theorem dX1_init_47 : decode cX1_init 47 = .ok (.aload_n 0, 1) := by decide +kernel
theorem dX1_init_48 : decode cX1_init 48 = .ok (.iconst 0, 1) := by decide +kernel
theorem dX1_init_49 : decode cX1_init 49 = .ok (.putfield 37, 3) := by decide +kernel
theorem dX1_init_52 : decode cX1_init 52 = .ok (.aload_n 0, 1) := by decide +kernel
theorem dX1_init_53 : decode cX1_init 53 = .ok (.iconst 0, 1) := by decide +kernel
theorem dX1_init_54 : decode cX1_init 54 = .ok (.putfield 40, 3) := by decide +kernel
theorem dX1_init_57 : decode cX1_init 57 = .ok (.aload_n 0, 1) := by decide +kernel
theorem dX1_init_58 : decode cX1_init 58 = .ok (.iconst 0, 1) := by decide +kernel
theorem dX1_init_59 : decode cX1_init 59 = .ok (.putfield 44, 3) := by decide +kernel
theorem dX1_init_62 : decode cX1_init 62 = .ok (.aload_n 0, 1) := by decide +kernel
theorem dX1_init_63 : decode cX1_init 63 = .ok (.iconst 0, 1) := by decide +kernel
theorem dX1_init_64 : decode cX1_init 64 = .ok (.putfield 47, 3) := by decide +kernel
theorem dX1_init_67 : decode cX1_init 67 = .ok (.aload_n 0, 1) := by decide +kernel
theorem dX1_init_68 : decode cX1_init 68 = .ok (.iconst 0, 1) := by decide +kernel
theorem dX1_init_69 : decode cX1_init 69 = .ok (.putfield 50, 3) := by decide +kernel
theorem dX1_init_72 : decode cX1_init 72 = .ok (.return_, 1) := by decide +kernel
theorem dX1_join_0 : decode cX1_join 0 = .ok (.aload_n 0, 1) := by decide +kernel
theorem dX1_join_1 : decode cX1_join 1 = .ok (.iload_n 1, 1) := by decide +kernel
theorem dX1_join_2 : decode cX1_join 2 = .ok (.putfield 25, 3) := by decide +kernel
theorem dX1_join_5 : decode cX1_join 5 = .ok (.aload_n 0, 1) := by decide +kernel
theorem dX1_join_6 : decode cX1_join 6 = .ok (.iload_n 2, 1) := by decide +kernel
theorem dX1_join_7 : decode cX1_join 7 = .ok (.putfield 28, 3) := by decide +kernel
theorem dX1_join_10 : decode cX1_join 10 = .ok (.aload_n 0, 1) := by decide +kernel
theorem dX1_join_11 : decode cX1_join 11 = .ok (.iload_n 3, 1) := by decide +kernel
theorem dX1_join_12 : decode cX1_join 12 = .ok (.putfield 31, 3) := by decide +kernel
theorem dX1_join_15 : decode cX1_join 15 = .ok (.return_, 1) := by decide +kernel
theorem dX1_isActive_0 : decode cX1_isActive 0 = .ok (.aload_n 0, 1) := by decide +kernel
theorem dX1_isActive_1 : decode cX1_isActive 1 = .ok (.getfield 22, 3) := by decide +kernel
theorem dX1_isActive_4 : decode cX1_isActive 4 = .ok (.ifCond .eq 11, 3) := by decide +kernel
theorem dX1_isActive_7 : decode cX1_isActive 7 = .ok (.aload_n 0, 1) := by decide +kernel
theorem dX1_isActive_8 : decode cX1_isActive 8 = .ok (.getfield 22, 3) := by decide +kernel
theorem dX1_isActive_11 : decode cX1_isActive 11 = .ok (.iconst 1, 1) := by decide +kernel
theorem dX1_isActive_12 : decode cX1_isActive 12 = .ok (.if_icmp .ne 7, 3) := by decide +kernel
theorem dX1_isActive_15 : decode cX1_isActive 15 = .ok (.iconst 1, 1) := by decide +kernel
theorem dX1_isActive_16 : decode cX1_isActive 16 = .ok (.goto 4, 3) := by decide +kernel
theorem dX1_isActive_19 : decode cX1_isActive 19 = .ok (.iconst 0, 1) := by decide +kernel
theorem dX1_isActive_20 : decode cX1_isActive 20 = .ok (.ireturn, 1) := by decide +kernel
theorem dX1_freeRoom_0 : decode cX1_freeRoom 0 = .ok (.aload_n 0, 1) := by decide +kernel
theorem dX1_freeRoom_1 : decode cX1_freeRoom 1 = .ok (.getfield 31, 3) := by decide +kernel
theorem dX1_freeRoom_4 : decode cX1_freeRoom 4 = .ok (.aload_n 0, 1) := by decide +kernel
theorem dX1_freeRoom_5 : decode cX1_freeRoom 5 = .ok (.getfield 19, 3) := by decide +kernel
theorem dX1_freeRoom_8 : decode cX1_freeRoom 8 = .ok (.isub, 1) := by decide +kernel
theorem dX1_freeRoom_9 : decode cX1_freeRoom 9 = .ok (.ireturn, 1) := by decide +kernel
set_option maxRecDepth 20000 in
theorem ggX1_takesClient_X1_freeRoom : GoodIn wsX1_takesClient wsX1_freeRoom := goodIn_r _ [8, 9, 3, 10, 11, 12, 13, 14, 15, 16, 17, 18, 19, 20, 21, 22] (by decide +kernel) (by decide +kernel)
set_option maxRecDepth 20000 in
theorem gX1_takesClient_X1_freeRoom : GoodIn wsX1_takesClient (wsV RX1 53 RX1 yX1_freeRoom wsX1_freeRoom) := goodIn_app (goodIn_of _ (by decide +kernel)) ggX1_takesClient_X1_freeRoom
theorem dX1_takesClient_0 : decode cX1_takesClient 0 = .ok (.iload_n 1, 1) := by decide +kernel
theorem dX1_takesClient_1 : decode cX1_takesClient 1 = .ok (.aload_n 0, 1) := by decide +kernel
theorem dX1_takesClient_2 : decode cX1_takesClient 2 = .ok (.invokevirtual 53, 3) := by decide +kernel
theorem dX1_takesClient_5 : decode cX1_takesClient 5 = .ok (.if_icmp .gt 12, 3) := by decide +kernel
theorem dX1_takesClient_8 : decode cX1_takesClient 8 = .ok (.aload_n 0, 1) := by decide +kernel
theorem dX1_takesClient_9 : decode cX1_takesClient 9 = .ok (.getfield 15, 3) := by decide +kernel
theorem dX1_takesClient_12 : decode cX1_takesClient 12 = .ok (.bipush 100, 2) := by decide +kernel
theorem dX1_takesClient_14 : decode cX1_takesClient 14 = .ok (.if_icmp .lt 5, 3) := by decide +kernel
theorem dX1_takesClient_17 : decode cX1_takesClient 17 = .ok (.iconst 0, 1) := by decide +kernel
theorem dX1_takesClient_18 : decode cX1_takesClient 18 = .ok (.ireturn, 1) := by decide +kernel
theorem dX1_takesClient_19 : decode cX1_takesClient 19 = .ok (.aload_n 0, 1) := by decide +kernel
theorem dX1_takesClient_20 : decode cX1_takesClient 20 = .ok (.getfield 9, 3) := by decide +kernel
theorem dX1_takesClient_23 : decode cX1_takesClient 23 = .ok (.aload_n 0, 1) := by decide +kernel
theorem dX1_takesClient_24 : decode cX1_takesClient 24 = .ok (.getfield 15, 3) := by decide +kernel
theorem dX1_takesClient_27 : decode cX1_takesClient 27 = .ok (.iload_n 1, 1) := by decide +kernel
theorem dX1_takesClient_28 : decode cX1_takesClient 28 = .ok (.iastore, 1) := by decide +kernel
theorem dX1_takesClient_29 : decode cX1_takesClient 29 = .ok (.aload_n 0, 1) := by decide +kernel
theorem dX1_takesClient_30 : decode cX1_takesClient 30 = .ok (.dup, 1) := by decide +kernel
theorem dX1_takesClient_31 : decode cX1_takesClient 31 = .ok (.getfield 15, 3) := by decide +kernel
theorem dX1_takesClient_34 : decode cX1_takesClient 34 = .ok (.iconst 1, 1) := by decide +kernel
theorem dX1_takesClient_35 : decode cX1_takesClient 35 = .ok (.iadd, 1) := by decide +kernel
theorem dX1_takesClient_36 : decode cX1_takesClient 36 = .ok (.putfield 15, 3) := by decide +kernel
theorem dX1_takesClient_39 : decode cX1_takesClient 39 = .ok (.aload_n 0, 1) := by decide +kernel
theorem dX1_takesClient_40 : decode cX1_takesClient 40 = .ok (.dup, 1) := by decide +kernel
theorem dX1_takesClient_41 : decode cX1_takesClient 41 = .ok (.getfield 19, 3) := by decide +kernel
theorem dX1_takesClient_44 : decode cX1_takesClient 44 = .ok (.iload_n 1, 1) := by decide +kernel
theorem dX1_takesClient_45 : decode cX1_takesClient 45 = .ok (.iadd, 1) := by decide +kernel
theorem dX1_takesClient_46 : decode cX1_takesClient 46 = .ok (.putfield 19, 3) := by decide +kernel
theorem dX1_takesClient_49 : decode cX1_takesClient 49 = .ok (.iconst 1, 1) := by decide +kernel
theorem dX1_takesClient_50 : decode cX1_takesClient 50 = .ok (.ireturn, 1) := by decide +kernel
theorem dX1_dropClients_0 : decode cX1_dropClients 0 = .ok (.aload_n 0, 1) := by decide +kernel
theorem dX1_dropClients_1 : decode cX1_dropClients 1 = .ok (.iconst 0, 1) := by decide +kernel
theorem dX1_dropClients_2 : decode cX1_dropClients 2 = .ok (.putfield 15, 3) := by decide +kernel
theorem dX1_dropClients_5 : decode cX1_dropClients 5 = .ok (.aload_n 0, 1) := by decide +kernel
theorem dX1_dropClients_6 : decode cX1_dropClients 6 = .ok (.iconst 0, 1) := by decide +kernel
theorem dX1_dropClients_7 : decode cX1_dropClients 7 = .ok (.putfield 19, 3) := by decide +kernel
theorem dX1_dropClients_10 : decode cX1_dropClients 10 = .ok (.return_, 1) := by decide +kernel
theorem dX1_raiseShare_0 : decode cX1_raiseShare 0 = .ok (.iconst 0, 1) := by decide +kernel
theorem dX1_raiseShare_1 : decode cX1_raiseShare 1 = .ok (.iload_n 1, 1) := by decide +kernel
theorem dX1_raiseShare_2 : decode cX1_raiseShare 2 = .ok (.aload_n 0, 1) := by decide +kernel
theorem dX1_raiseShare_3 : decode cX1_raiseShare 3 = .ok (.getfield 28, 3) := by decide +kernel
theorem dX1_raiseShare_6 : decode cX1_raiseShare 6 = .ok (.isub, 1) := by decide +kernel
theorem dX1_raiseShare_7 : decode cX1_raiseShare 7 = .ok (.invokestatic 57, 3) := by decide +kernel
theorem dX1_raiseShare_10 : decode cX1_raiseShare 10 = .ok (.istore_n 2, 1) := by decide +kernel
theorem dX1_raiseShare_11 : decode cX1_raiseShare 11 = .ok (.aload_n 0, 1) := by decide +kernel
theorem dX1_raiseShare_12 : decode cX1_raiseShare 12 = .ok (.dup, 1) := by decide +kernel
theorem dX1_raiseShare_13 : decode cX1_raiseShare 13 = .ok (.getfield 28, 3) := by decide +kernel
theorem dX1_raiseShare_16 : decode cX1_raiseShare 16 = .ok (.iload_n 2, 1) := by decide +kernel
theorem dX1_raiseShare_17 : decode cX1_raiseShare 17 = .ok (.iadd, 1) := by decide +kernel
theorem dX1_raiseShare_18 : decode cX1_raiseShare 18 = .ok (.putfield 28, 3) := by decide +kernel
theorem dX1_raiseShare_21 : decode cX1_raiseShare 21 = .ok (.iload_n 2, 1) := by decide +kernel
theorem dX1_raiseShare_22 : decode cX1_raiseShare 22 = .ok (.ireturn, 1) := by decide +kernel
set_option maxRecDepth 20000 in
theorem ggX1_loseAll_X1_dropClients : GoodIn wsX1_loseAll wsX1_dropClients := goodIn_r _ [8, 9, 10, 11, 12, 13, 14, 15, 16, 17, 18, 19, 20, 21, 22, 23] (by decide +kernel) (by decide +kernel)
set_option maxRecDepth 20000 in
theorem gX1_loseAll_X1_dropClients : GoodIn wsX1_loseAll (wsV RX1 63 RX1 yX1_dropClients wsX1_dropClients) := goodIn_app (goodIn_of _ (by decide +kernel)) ggX1_loseAll_X1_dropClients
theorem dX1_loseAll_0 : decode cX1_loseAll 0 = .ok (.aload_n 0, 1) := by decide +kernel
theorem dX1_loseAll_1 : decode cX1_loseAll 1 = .ok (.iconst 0, 1) := by decide +kernel
theorem dX1_loseAll_2 : decode cX1_loseAll 2 = .ok (.putfield 25, 3) := by decide +kernel
theorem dX1_loseAll_5 : decode cX1_loseAll 5 = .ok (.aload_n 0, 1) := by decide +kernel
theorem dX1_loseAll_6 : decode cX1_loseAll 6 = .ok (.iconst 0, 1) := by decide +kernel
theorem dX1_loseAll_7 : decode cX1_loseAll 7 = .ok (.putfield 28, 3) := by decide +kernel
theorem dX1_loseAll_10 : decode cX1_loseAll 10 = .ok (.aload_n 0, 1) := by decide +kernel
theorem dX1_loseAll_11 : decode cX1_loseAll 11 = .ok (.iconst 0, 1) := by decide +kernel
theorem dX1_loseAll_12 : decode cX1_loseAll 12 = .ok (.putfield 34, 3) := by decide +kernel
theorem dX1_loseAll_15 : decode cX1_loseAll 15 = .ok (.aload_n 0, 1) := by decide +kernel
theorem dX1_loseAll_16 : decode cX1_loseAll 16 = .ok (.invokevirtual 63, 3) := by decide +kernel
theorem dX1_loseAll_19 : decode cX1_loseAll 19 = .ok (.return_, 1) := by decide +kernel
theorem dX2_init_0 : decode cX2_init 0 = .ok (.aload_n 0, 1) := by decide +kernel
theorem dX2_init_1 : decode cX2_init 1 = .ok (.invokespecial 3, 3) := by decide +kernel
theorem dX2_init_4 : decode cX2_init 4 = .ok (.aload_n 0, 1) := by decide +kernel
theorem dX2_init_5 : decode cX2_init 5 = .ok (.bipush 10, 2) := by decide +kernel
theorem dX2_init_7 : decode cX2_init 7 = .ok (.newarray .int, 2) := by decide +kernel
theorem dX2_init_9 : decode cX2_init 9 = .ok (.putfield 9, 3) := by decide +kernel
theorem dX2_init_12 : decode cX2_init 12 = .ok (.aload_n 0, 1) := by decide +kernel
theorem dX2_init_13 : decode cX2_init 13 = .ok (.bipush 10, 2) := by decide +kernel
theorem dX2_init_15 : decode cX2_init 15 = .ok (.newarray .int, 2) := by decide +kernel
theorem dX2_init_17 : decode cX2_init 17 = .ok (.putfield 15, 3) := by decide +kernel
theorem dX2_init_20 : decode cX2_init 20 = .ok (.aload_n 0, 1) := by decide +kernel
theorem dX2_init_21 : decode cX2_init 21 = .ok (.bipush 10, 2) := by decide +kernel
theorem dX2_init_23 : decode cX2_init 23 = .ok (.newarray .int, 2) := by decide +kernel
theorem dX2_init_25 : decode cX2_init 25 = .ok (.putfield 18, 3) := by decide +kernel
theorem dX2_init_28 : decode cX2_init 28 = .ok (.return_, 1) := by decide +kernel
theorem dX2_enter_0 : decode cX2_enter 0 = .ok (.aload_n 0, 1) := by decide +kernel
theorem dX2_enter_1 : decode cX2_enter 1 = .ok (.getfield 9, 3) := by decide +kernel
theorem dX2_enter_4 : decode cX2_enter 4 = .ok (.iload_n 1, 1) := by decide +kernel
theorem dX2_enter_5 : decode cX2_enter 5 = .ok (.iload_n 2, 1) := by decide +kernel
theorem dX2_enter_6 : decode cX2_enter 6 = .ok (.iastore, 1) := by decide +kernel
theorem dX2_enter_7 : decode cX2_enter 7 = .ok (.aload_n 0, 1) := by decide +kernel
theorem dX2_enter_8 : decode cX2_enter 8 = .ok (.getfield 15, 3) := by decide +kernel
theorem dX2_enter_11 : decode cX2_enter 11 = .ok (.iload_n 1, 1) := by decide +kernel
theorem dX2_enter_12 : decode cX2_enter 12 = .ok (.iload_n 3, 1) := by decide +kernel
theorem dX2_enter_13 : decode cX2_enter 13 = .ok (.iastore, 1) := by decide +kernel
theorem dX2_enter_14 : decode cX2_enter 14 = .ok (.return_, 1) := by decide +kernel
theorem dX2_partOf_0 : decode cX2_partOf 0 = .ok (.aload_n 0, 1) := by decide +kernel
theorem dX2_partOf_1 : decode cX2_partOf 1 = .ok (.getfield 18, 3) := by decide +kernel
theorem dX2_partOf_4 : decode cX2_partOf 4 = .ok (.iload_n 1, 1) := by decide +kernel
theorem dX2_partOf_5 : decode cX2_partOf 5 = .ok (.iaload, 1) := by decide +kernel
theorem dX2_partOf_6 : decode cX2_partOf 6 = .ok (.ireturn, 1) := by decide +kernel
set_option maxRecDepth 20000 in
theorem ggX2_part_X2_giveCoins : GoodIn wsX2_part wsX2_giveCoins := goodIn_r _ [12, 2, 13, 14, 15, 11, 16, 3, 4, 5, 6, 7, 17, 18, 19, 20, 21, 22, 23, 1, 24, 25, 26] (by decide +kernel) (by decide +kernel)
set_option maxRecDepth 20000 in
theorem gX2_part_X2_giveCoins : GoodIn wsX2_part (wsV RX2 27 RX2 yX2_giveCoins wsX2_giveCoins) := goodIn_app (goodIn_of _ (by decide +kernel)) ggX2_part_X2_giveCoins
theorem dX2_part_0 : decode cX2_part 0 = .ok (.iconst 0, 1) := by decide +kernel
theorem dX2_part_1 : decode cX2_part 1 = .ok (.istore_n 2, 1) := by decide +kernel
theorem dX2_part_2 : decode cX2_part 2 = .ok (.iconst 0, 1) := by decide +kernel
theorem dX2_part_3 : decode cX2_part 3 = .ok (.istore_n 3, 1) := by decide +kernel
theorem dX2_part_4 : decode cX2_part 4 = .ok (.iload_n 3, 1) := by decide +kernel
theorem dX2_part_5 : decode cX2_part 5 = .ok (.bipush 10, 2) := by decide +kernel
theorem dX2_part_7 : decode cX2_part 7 = .ok (.if_icmp .ge 25, 3) := by decide +kernel
theorem dX2_part_10 : decode cX2_part 10 = .ok (.iload_n 2, 1) := by decide +kernel
theorem dX2_part_11 : decode cX2_part 11 = .ok (.aload_n 0, 1) := by decide +kernel
theorem dX2_part_12 : decode cX2_part 12 = .ok (.getfield 9, 3) := by decide +kernel
theorem dX2_part_15 : decode cX2_part 15 = .ok (.iload_n 3, 1) := by decide +kernel
theorem dX2_part_16 : decode cX2_part 16 = .ok (.iaload, 1) := by decide +kernel
theorem dX2_part_17 : decode cX2_part 17 = .ok (.iadd, 1) := by decide +kernel
theorem dX2_part_18 : decode cX2_part 18 = .ok (.istore_n 2, 1) := by decide +kernel
theorem dX2_part_19 : decode cX2_part 19 = .ok (.aload_n 0, 1) := by decide +kernel
theorem dX2_part_20 : decode cX2_part 20 = .ok (.getfield 18, 3) := by decide +kernel
theorem dX2_part_23 : decode cX2_part 23 = .ok (.iload_n 3, 1) := by decide +kernel
theorem dX2_part_24 : decode cX2_part 24 = .ok (.iconst 0, 1) := by decide +kernel
theorem dX2_part_25 : decode cX2_part 25 = .ok (.iastore, 1) := by decide +kernel
theorem dX2_part_26 : decode cX2_part 26 = .ok (.iinc 3 1, 3) := by decide +kernel
theorem dX2_part_29 : decode cX2_part 29 = .ok (.goto (-25), 3) := by decide +kernel
theorem dX2_part_32 : decode cX2_part 32 = .ok (.iload_n 2, 1) := by decide +kernel
theorem dX2_part_33 : decode cX2_part 33 = .ok (.ifCond .gt 5, 3) := by decide +kernel
theorem dX2_part_36 : decode cX2_part 36 = .ok (.iload_n 1, 1) := by decide +kernel
theorem dX2_part_37 : decode cX2_part 37 = .ok (.ireturn, 1) := by decide +kernel
theorem dX2_part_38 : decode cX2_part 38 = .ok (.iload_n 1, 1) := by decide +kernel
theorem dX2_part_39 : decode cX2_part 39 = .ok (.istore_n 3, 1) := by decide +kernel
theorem dX2_part_40 : decode cX2_part 40 = .ok (.iconst 0, 1) := by decide +kernel
theorem dX2_part_41 : decode cX2_part 41 = .ok (.istore 4, 2) := by decide +kernel
theorem dX2_part_43 : decode cX2_part 43 = .ok (.iload 4, 2) := by decide +kernel
theorem dX2_part_45 : decode cX2_part 45 = .ok (.bipush 10, 2) := by decide +kernel
theorem dX2_part_47 : decode cX2_part 47 = .ok (.if_icmp .ge 55, 3) := by decide +kernel
theorem dX2_part_50 : decode cX2_part 50 = .ok (.iload_n 1, 1) := by decide +kernel
theorem dX2_part_51 : decode cX2_part 51 = .ok (.i2l, 1) := by decide +kernel
theorem dX2_part_52 : decode cX2_part 52 = .ok (.aload_n 0, 1) := by decide +kernel
theorem dX2_part_53 : decode cX2_part 53 = .ok (.getfield 9, 3) := by decide +kernel
theorem dX2_part_56 : decode cX2_part 56 = .ok (.iload 4, 2) := by decide +kernel
theorem dX2_part_58 : decode cX2_part 58 = .ok (.iaload, 1) := by decide +kernel
theorem dX2_part_59 : decode cX2_part 59 = .ok (.i2l, 1) := by decide +kernel
theorem dX2_part_60 : decode cX2_part 60 = .ok (.lmul, 1) := by decide +kernel
theorem dX2_part_61 : decode cX2_part 61 = .ok (.iload_n 2, 1) := by decide +kernel
theorem dX2_part_62 : decode cX2_part 62 = .ok (.i2l, 1) := by decide +kernel
theorem dX2_part_63 : decode cX2_part 63 = .ok (.ldiv, 1) := by decide +kernel
theorem dX2_part_64 : decode cX2_part 64 = .ok (.l2i, 1) := by decide +kernel
theorem dX2_part_65 : decode cX2_part 65 = .ok (.istore 5, 2) := by decide +kernel
theorem dX2_part_67 : decode cX2_part 67 = .ok (.aload_n 0, 1) := by decide +kernel
theorem dX2_part_68 : decode cX2_part 68 = .ok (.getfield 18, 3) := by decide +kernel
theorem dX2_part_71 : decode cX2_part 71 = .ok (.iload 4, 2) := by decide +kernel
theorem dX2_part_73 : decode cX2_part 73 = .ok (.iload 5, 2) := by decide +kernel
theorem dX2_part_75 : decode cX2_part 75 = .ok (.aload_n 0, 1) := by decide +kernel
theorem dX2_part_76 : decode cX2_part 76 = .ok (.getfield 15, 3) := by decide +kernel
theorem dX2_part_79 : decode cX2_part 79 = .ok (.iload 4, 2) := by decide +kernel
theorem dX2_part_81 : decode cX2_part 81 = .ok (.iaload, 1) := by decide +kernel
theorem dX2_part_82 : decode cX2_part 82 = .ok (.invokestatic 21, 3) := by decide +kernel
theorem dX2_part_85 : decode cX2_part 85 = .ok (.iastore, 1) := by decide +kernel
theorem dX2_part_86 : decode cX2_part 86 = .ok (.iload_n 3, 1) := by decide +kernel
theorem dX2_part_87 : decode cX2_part 87 = .ok (.aload_n 0, 1) := by decide +kernel
theorem dX2_part_88 : decode cX2_part 88 = .ok (.getfield 18, 3) := by decide +kernel
theorem dX2_part_91 : decode cX2_part 91 = .ok (.iload 4, 2) := by decide +kernel
theorem dX2_part_93 : decode cX2_part 93 = .ok (.iaload, 1) := by decide +kernel
theorem dX2_part_94 : decode cX2_part 94 = .ok (.isub, 1) := by decide +kernel
theorem dX2_part_95 : decode cX2_part 95 = .ok (.istore_n 3, 1) := by decide +kernel
theorem dX2_part_96 : decode cX2_part 96 = .ok (.iinc 4 1, 3) := by decide +kernel
theorem dX2_part_99 : decode cX2_part 99 = .ok (.goto (-56), 3) := by decide +kernel
theorem dX2_part_102 : decode cX2_part 102 = .ok (.aload_n 0, 1) := by decide +kernel
theorem dX2_part_103 : decode cX2_part 103 = .ok (.iload_n 3, 1) := by decide +kernel
theorem dX2_part_104 : decode cX2_part 104 = .ok (.invokevirtual 27, 3) := by decide +kernel
theorem dX2_part_107 : decode cX2_part 107 = .ok (.ireturn, 1) := by decide +kernel
set_option maxRecDepth 20000 in
theorem ggX2_giveCoins_X2_roundsAtAStroke : GoodIn wsX2_giveCoins wsX2_roundsAtAStroke := goodIn_r _ [6, 7, 1, 8, 9, 10, 11, 12, 13, 14, 15, 16, 17, 5, 18, 19, 20, 21, 22] (by decide +kernel) (by decide +kernel)
set_option maxRecDepth 20000 in
theorem gX2_giveCoins_X2_roundsAtAStroke : GoodIn wsX2_giveCoins (wsV RX2 31 RX2 yX2_roundsAtAStroke wsX2_roundsAtAStroke) := goodIn_app (goodIn_of _ (by decide +kernel)) ggX2_giveCoins_X2_roundsAtAStroke
set_option maxRecDepth 20000 in
theorem ggX2_giveCoins_X2_canTake : GoodIn wsX2_giveCoins wsX2_canTake := goodIn_r _ [18, 19, 1, 7, 20, 21, 22] (by decide +kernel) (by decide +kernel)
set_option maxRecDepth 20000 in
theorem gX2_giveCoins_X2_canTake : GoodIn wsX2_giveCoins (wsV RX2 34 RX2 yX2_canTake wsX2_canTake) := goodIn_app (goodIn_of _ (by decide +kernel)) ggX2_giveCoins_X2_canTake
theorem dX2_giveCoins_0 : decode cX2_giveCoins 0 = .ok (.iload_n 1, 1) := by decide +kernel
theorem dX2_giveCoins_1 : decode cX2_giveCoins 1 = .ok (.istore_n 2, 1) := by decide +kernel
theorem dX2_giveCoins_2 : decode cX2_giveCoins 2 = .ok (.iconst 0, 1) := by decide +kernel
theorem dX2_giveCoins_3 : decode cX2_giveCoins 3 = .ok (.istore_n 3, 1) := by decide +kernel
theorem dX2_giveCoins_4 : decode cX2_giveCoins 4 = .ok (.iload_n 3, 1) := by decide +kernel
theorem dX2_giveCoins_5 : decode cX2_giveCoins 5 = .ok (.bipush 12, 2) := by decide +kernel
theorem dX2_giveCoins_7 : decode cX2_giveCoins 7 = .ok (.if_icmp .ge 68, 3) := by decide +kernel
theorem dX2_giveCoins_10 : decode cX2_giveCoins 10 = .ok (.iload_n 2, 1) := by decide +kernel
theorem dX2_giveCoins_11 : decode cX2_giveCoins 11 = .ok (.ifCond .le 64, 3) := by decide +kernel
theorem dX2_giveCoins_14 : decode cX2_giveCoins 14 = .ok (.aload_n 0, 1) := by decide +kernel
theorem dX2_giveCoins_15 : decode cX2_giveCoins 15 = .ok (.iload_n 2, 1) := by decide +kernel
theorem dX2_giveCoins_16 : decode cX2_giveCoins 16 = .ok (.invokevirtual 31, 3) := by decide +kernel
theorem dX2_giveCoins_19 : decode cX2_giveCoins 19 = .ok (.istore 4, 2) := by decide +kernel
theorem dX2_giveCoins_21 : decode cX2_giveCoins 21 = .ok (.iconst 0, 1) := by decide +kernel
theorem dX2_giveCoins_22 : decode cX2_giveCoins 22 = .ok (.istore 5, 2) := by decide +kernel
theorem dX2_giveCoins_24 : decode cX2_giveCoins 24 = .ok (.iload 5, 2) := by decide +kernel
theorem dX2_giveCoins_26 : decode cX2_giveCoins 26 = .ok (.bipush 10, 2) := by decide +kernel
theorem dX2_giveCoins_28 : decode cX2_giveCoins 28 = .ok (.if_icmp .ge 41, 3) := by decide +kernel
theorem dX2_giveCoins_31 : decode cX2_giveCoins 31 = .ok (.aload_n 0, 1) := by decide +kernel
theorem dX2_giveCoins_32 : decode cX2_giveCoins 32 = .ok (.iload 5, 2) := by decide +kernel
theorem dX2_giveCoins_34 : decode cX2_giveCoins 34 = .ok (.invokevirtual 34, 3) := by decide +kernel
theorem dX2_giveCoins_37 : decode cX2_giveCoins 37 = .ok (.ifCond .eq 26, 3) := by decide +kernel
theorem dX2_giveCoins_40 : decode cX2_giveCoins 40 = .ok (.iload 4, 2) := by decide +kernel
theorem dX2_giveCoins_42 : decode cX2_giveCoins 42 = .ok (.iload_n 2, 1) := by decide +kernel
theorem dX2_giveCoins_43 : decode cX2_giveCoins 43 = .ok (.if_icmp .gt 20, 3) := by decide +kernel
theorem dX2_giveCoins_46 : decode cX2_giveCoins 46 = .ok (.aload_n 0, 1) := by decide +kernel
theorem dX2_giveCoins_47 : decode cX2_giveCoins 47 = .ok (.getfield 18, 3) := by decide +kernel
theorem dX2_giveCoins_50 : decode cX2_giveCoins 50 = .ok (.iload 5, 2) := by decide +kernel
theorem dX2_giveCoins_52 : decode cX2_giveCoins 52 = .ok (.dup2, 1) := by decide +kernel
theorem dX2_giveCoins_53 : decode cX2_giveCoins 53 = .ok (.iaload, 1) := by decide +kernel
theorem dX2_giveCoins_54 : decode cX2_giveCoins 54 = .ok (.iload 4, 2) := by decide +kernel
theorem dX2_giveCoins_56 : decode cX2_giveCoins 56 = .ok (.iadd, 1) := by decide +kernel
theorem dX2_giveCoins_57 : decode cX2_giveCoins 57 = .ok (.iastore, 1) := by decide +kernel
theorem dX2_giveCoins_58 : decode cX2_giveCoins 58 = .ok (.iload_n 2, 1) := by decide +kernel
theorem dX2_giveCoins_59 : decode cX2_giveCoins 59 = .ok (.iload 4, 2) := by decide +kernel
theorem dX2_giveCoins_61 : decode cX2_giveCoins 61 = .ok (.isub, 1) := by decide +kernel
theorem dX2_giveCoins_62 : decode cX2_giveCoins 62 = .ok (.istore_n 2, 1) := by decide +kernel
theorem dX2_giveCoins_63 : decode cX2_giveCoins 63 = .ok (.iinc 5 1, 3) := by decide +kernel
theorem dX2_giveCoins_66 : decode cX2_giveCoins 66 = .ok (.goto (-42), 3) := by decide +kernel
theorem dX2_giveCoins_69 : decode cX2_giveCoins 69 = .ok (.iinc 3 1, 3) := by decide +kernel
theorem dX2_giveCoins_72 : decode cX2_giveCoins 72 = .ok (.goto (-68), 3) := by decide +kernel
theorem dX2_giveCoins_75 : decode cX2_giveCoins 75 = .ok (.iload_n 2, 1) := by decide +kernel
theorem dX2_giveCoins_76 : decode cX2_giveCoins 76 = .ok (.ireturn, 1) := by decide +kernel
set_option maxRecDepth 20000 in
theorem ggX2_roundsAtAStroke_X2_canTake : GoodIn wsX2_roundsAtAStroke wsX2_canTake := goodIn_r _ [14, 15, 2, 1, 16, 17, 18] (by decide +kernel) (by decide +kernel)
set_option maxRecDepth 20000 in
theorem gX2_roundsAtAStroke_X2_canTake : GoodIn wsX2_roundsAtAStroke (wsV RX2 34 RX2 yX2_canTake wsX2_canTake) := goodIn_app (goodIn_of _ (by decide +kernel)) ggX2_roundsAtAStroke_X2_canTake
theorem dX2_roundsAtAStroke_0 : decode cX2_roundsAtAStroke 0 = .ok (.iconst 0, 1) := by decide +kernel
theorem dX2_roundsAtAStroke_1 : decode cX2_roundsAtAStroke 1 = .ok (.istore_n 2, 1) := by decide +kernel
theorem dX2_roundsAtAStroke_2 : decode cX2_roundsAtAStroke 2 = .ok (.iload_n 1, 1) := by decide +kernel
theorem dX2_roundsAtAStroke_3 : decode cX2_roundsAtAStroke 3 = .ok (.istore_n 3, 1) := by decide +kernel
theorem dX2_roundsAtAStroke_4 : decode cX2_roundsAtAStroke 4 = .ok (.iconst 0, 1) := by decide +kernel
theorem dX2_roundsAtAStroke_5 : decode cX2_roundsAtAStroke 5 = .ok (.istore 4, 2) := by decide +kernel
theorem dX2_roundsAtAStroke_7 : decode cX2_roundsAtAStroke 7 = .ok (.iload 4, 2) := by decide +kernel
theorem dX2_roundsAtAStroke_9 : decode cX2_roundsAtAStroke 9 = .ok (.bipush 10, 2) := by decide +kernel
theorem dX2_roundsAtAStroke_11 : decode cX2_roundsAtAStroke 11 = .ok (.if_icmp .ge 41, 3) := by decide +kernel
theorem dX2_roundsAtAStroke_14 : decode cX2_roundsAtAStroke 14 = .ok (.aload_n 0, 1) := by decide +kernel
theorem dX2_roundsAtAStroke_15 : decode cX2_roundsAtAStroke 15 = .ok (.iload 4, 2) := by decide +kernel
theorem dX2_roundsAtAStroke_17 : decode cX2_roundsAtAStroke 17 = .ok (.invokevirtual 34, 3) := by decide +kernel
theorem dX2_roundsAtAStroke_20 : decode cX2_roundsAtAStroke 20 = .ok (.ifCond .eq 26, 3) := by decide +kernel
theorem dX2_roundsAtAStroke_23 : decode cX2_roundsAtAStroke 23 = .ok (.iinc 2 1, 3) := by decide +kernel
theorem dX2_roundsAtAStroke_26 : decode cX2_roundsAtAStroke 26 = .ok (.iload_n 3, 1) := by decide +kernel
theorem dX2_roundsAtAStroke_27 : decode cX2_roundsAtAStroke 27 = .ok (.aload_n 0, 1) := by decide +kernel
theorem dX2_roundsAtAStroke_28 : decode cX2_roundsAtAStroke 28 = .ok (.getfield 15, 3) := by decide +kernel
theorem dX2_roundsAtAStroke_31 : decode cX2_roundsAtAStroke 31 = .ok (.iload 4, 2) := by decide +kernel
theorem dX2_roundsAtAStroke_33 : decode cX2_roundsAtAStroke 33 = .ok (.iaload, 1) := by decide +kernel
theorem dX2_roundsAtAStroke_34 : decode cX2_roundsAtAStroke 34 = .ok (.aload_n 0, 1) := by decide +kernel
theorem dX2_roundsAtAStroke_35 : decode cX2_roundsAtAStroke 35 = .ok (.getfield 18, 3) := by decide +kernel
theorem dX2_roundsAtAStroke_38 : decode cX2_roundsAtAStroke 38 = .ok (.iload 4, 2) := by decide +kernel
theorem dX2_roundsAtAStroke_40 : decode cX2_roundsAtAStroke 40 = .ok (.iaload, 1) := by decide +kernel
theorem dX2_roundsAtAStroke_41 : decode cX2_roundsAtAStroke 41 = .ok (.isub, 1) := by decide +kernel
theorem dX2_roundsAtAStroke_42 : decode cX2_roundsAtAStroke 42 = .ok (.invokestatic 21, 3) := by decide +kernel
theorem dX2_roundsAtAStroke_45 : decode cX2_roundsAtAStroke 45 = .ok (.istore_n 3, 1) := by decide +kernel
theorem dX2_roundsAtAStroke_46 : decode cX2_roundsAtAStroke 46 = .ok (.iinc 4 1, 3) := by decide +kernel
theorem dX2_roundsAtAStroke_49 : decode cX2_roundsAtAStroke 49 = .ok (.goto (-42), 3) := by decide +kernel
theorem dX2_roundsAtAStroke_52 : decode cX2_roundsAtAStroke 52 = .ok (.iload_n 2, 1) := by decide +kernel
theorem dX2_roundsAtAStroke_53 : decode cX2_roundsAtAStroke 53 = .ok (.ifCond .ne 5, 3) := by decide +kernel
theorem dX2_roundsAtAStroke_56 : decode cX2_roundsAtAStroke 56 = .ok (.iconst 0, 1) := by decide +kernel
theorem dX2_roundsAtAStroke_57 : decode cX2_roundsAtAStroke 57 = .ok (.ireturn, 1) := by decide +kernel
theorem dX2_roundsAtAStroke_58 : decode cX2_roundsAtAStroke 58 = .ok (.iconst 1, 1) := by decide +kernel
theorem dX2_roundsAtAStroke_59 : decode cX2_roundsAtAStroke 59 = .ok (.iload_n 3, 1) := by decide +kernel
theorem dX2_roundsAtAStroke_60 : decode cX2_roundsAtAStroke 60 = .ok (.iload_n 1, 1) := by decide +kernel
theorem dX2_roundsAtAStroke_61 : decode cX2_roundsAtAStroke 61 = .ok (.iload_n 2, 1) := by decide +kernel
theorem dX2_roundsAtAStroke_62 : decode cX2_roundsAtAStroke 62 = .ok (.idiv, 1) := by decide +kernel
theorem dX2_roundsAtAStroke_63 : decode cX2_roundsAtAStroke 63 = .ok (.invokestatic 21, 3) := by decide +kernel
theorem dX2_roundsAtAStroke_66 : decode cX2_roundsAtAStroke 66 = .ok (.invokestatic 38, 3) := by decide +kernel
theorem dX2_roundsAtAStroke_69 : decode cX2_roundsAtAStroke 69 = .ok (.ireturn, 1) := by decide +kernel
theorem dX2_canTake_0 : decode cX2_canTake 0 = .ok (.aload_n 0, 1) := by decide +kernel
theorem dX2_canTake_1 : decode cX2_canTake 1 = .ok (.getfield 9, 3) := by decide +kernel
theorem dX2_canTake_4 : decode cX2_canTake 4 = .ok (.iload_n 1, 1) := by decide +kernel
theorem dX2_canTake_5 : decode cX2_canTake 5 = .ok (.iaload, 1) := by decide +kernel
theorem dX2_canTake_6 : decode cX2_canTake 6 = .ok (.ifCond .le 22, 3) := by decide +kernel
theorem dX2_canTake_9 : decode cX2_canTake 9 = .ok (.aload_n 0, 1) := by decide +kernel
theorem dX2_canTake_10 : decode cX2_canTake 10 = .ok (.getfield 18, 3) := by decide +kernel
theorem dX2_canTake_13 : decode cX2_canTake 13 = .ok (.iload_n 1, 1) := by decide +kernel
theorem dX2_canTake_14 : decode cX2_canTake 14 = .ok (.iaload, 1) := by decide +kernel
theorem dX2_canTake_15 : decode cX2_canTake 15 = .ok (.aload_n 0, 1) := by decide +kernel
theorem dX2_canTake_16 : decode cX2_canTake 16 = .ok (.getfield 15, 3) := by decide +kernel
theorem dX2_canTake_19 : decode cX2_canTake 19 = .ok (.iload_n 1, 1) := by decide +kernel
theorem dX2_canTake_20 : decode cX2_canTake 20 = .ok (.iaload, 1) := by decide +kernel
theorem dX2_canTake_21 : decode cX2_canTake 21 = .ok (.if_icmp .ge 7, 3) := by decide +kernel
theorem dX2_canTake_24 : decode cX2_canTake 24 = .ok (.iconst 1, 1) := by decide +kernel
theorem dX2_canTake_25 : decode cX2_canTake 25 = .ok (.goto 4, 3) := by decide +kernel
theorem dX2_canTake_28 : decode cX2_canTake 28 = .ok (.iconst 0, 1) := by decide +kernel
theorem dX2_canTake_29 : decode cX2_canTake 29 = .ok (.ireturn, 1) := by decide +kernel
set_option maxRecDepth 20000 in
theorem ggX3_init_X0_init : GoodIn wsX3_init wsX0_init := goodIn_r _ [22, 23, 2, 3, 24, 25, 26, 27, 58, 59] (by decide +kernel) (by decide +kernel)
set_option maxRecDepth 20000 in
theorem gX3_init_X0_init_n17 : GoodIn wsX3_init (wsX0_init) := ggX3_init_X0_init
set_option maxRecDepth 20000 in
theorem ggX3_init_X2_init : GoodIn wsX3_init wsX2_init := goodIn_r _ [29, 30, 2, 3, 25, 31, 32, 33, 60, 61, 62] (by decide +kernel) (by decide +kernel)
set_option maxRecDepth 20000 in
theorem gX3_init_X2_init_n24 : GoodIn wsX3_init (wsX2_init) := ggX3_init_X2_init
set_option maxRecDepth 20000 in
theorem ggX3_init_X1_init : GoodIn wsX3_init wsX1_init := goodIn_r _ [35, 36, 2, 3, 25, 37, 38, 39, 40, 41, 42, 43, 44, 45, 46, 47, 48, 49, 63, 64, 65, 66, 67, 68, 69, 70, 71, 72, 73, 74, 75] (by decide +kernel) (by decide +kernel)
set_option maxRecDepth 20000 in
theorem gX3_init_X1_init_n45 : GoodIn wsX3_init (wsX1_init) := ggX3_init_X1_init
theorem dX3_init_0 : decode cX3_init 0 = .ok (.aload_n 0, 1) := by decide +kernel
theorem dX3_init_1 : decode cX3_init 1 = .ok (.invokespecial 3, 3) := by decide +kernel
theorem dX3_init_4 : decode cX3_init 4 = .ok (.aload_n 0, 1) := by decide +kernel
theorem dX3_init_5 : decode cX3_init 5 = .ok (.bipush 10, 2) := by decide +kernel
theorem dX3_init_7 : decode cX3_init 7 = .ok (.anewarray 9, 3) := by decide +kernel
theorem dX3_init_10 : decode cX3_init 10 = .ok (.putfield 11, 3) := by decide +kernel
theorem dX3_init_13 : decode cX3_init 13 = .ok (.aload_n 0, 1) := by decide +kernel
theorem dX3_init_14 : decode cX3_init 14 = .ok (.new 15, 3) := by decide +kernel
theorem dX3_init_17 : decode cX3_init 17 = .ok (.dup, 1) := by decide +kernel
theorem dX3_init_18 : decode cX3_init 18 = .ok (.invokespecial 17, 3) := by decide +kernel
theorem dX3_init_21 : decode cX3_init 21 = .ok (.putfield 18, 3) := by decide +kernel
theorem dX3_init_24 : decode cX3_init 24 = .ok (.aload_n 0, 1) := by decide +kernel
theorem dX3_init_25 : decode cX3_init 25 = .ok (.new 22, 3) := by decide +kernel
theorem dX3_init_28 : decode cX3_init 28 = .ok (.dup, 1) := by decide +kernel
theorem dX3_init_29 : decode cX3_init 29 = .ok (.invokespecial 24, 3) := by decide +kernel
theorem dX3_init_32 : decode cX3_init 32 = .ok (.putfield 25, 3) := by decide +kernel
theorem dX3_init_35 : decode cX3_init 35 = .ok (.aload_n 0, 1) := by decide +kernel
theorem dX3_init_36 : decode cX3_init 36 = .ok (.iconst 0, 1) := by decide +kernel
theorem dX3_init_37 : decode cX3_init 37 = .ok (.putfield 29, 3) := by decide +kernel
theorem dX3_init_40 : decode cX3_init 40 = .ok (.aload_n 0, 1) := by decide +kernel
theorem dX3_init_41 : decode cX3_init 41 = .ok (.iconst 0, 1) := by decide +kernel
theorem dX3_init_42 : decode cX3_init 42 = .ok (.putfield 33, 3) := by decide +kernel
theorem dX3_init_45 : decode cX3_init 45 = .ok (.aload_n 0, 1) := by decide +kernel
theorem dX3_init_46 : decode cX3_init 46 = .ok (.iconst 0, 1) := by decide +kernel
theorem dX3_init_47 : decode cX3_init 47 = .ok (.putfield 36, 3) := by decide +kernel
theorem dX3_init_50 : decode cX3_init 50 = .ok (.aload_n 0, 1) := by decide +kernel
theorem dX3_init_51 : decode cX3_init 51 = .ok (.iconst 0, 1) := by decide +kernel
theorem dX3_init_52 : decode cX3_init 52 = .ok (.putfield 39, 3) := by decide +kernel
theorem dX3_init_55 : decode cX3_init 55 = .ok (.aload_n 0, 1) := by decide +kernel
theorem dX3_init_56 : decode cX3_init 56 = .ok (.iconst (-1), 1) := by decide +kernel
theorem dX3_init_57 : decode cX3_init 57 = .ok (.putfield 42, 3) := by decide +kernel
theorem dX3_init_60 : decode cX3_init 60 = .ok (.iconst 0, 1) := by decide +kernel
theorem dX3_init_61 : decode cX3_init 61 = .ok (.istore_n 1, 1) := by decide +kernel
theorem dX3_init_62 : decode cX3_init 62 = .ok (.iload_n 1, 1) := by decide +kernel
theorem dX3_init_63 : decode cX3_init 63 = .ok (.bipush 10, 2) := by decide +kernel
theorem dX3_init_65 : decode cX3_init 65 = .ok (.if_icmp .ge 22, 3) := by decide +kernel
theorem dX3_init_68 : decode cX3_init 68 = .ok (.aload_n 0, 1) := by decide +kernel
theorem dX3_init_69 : decode cX3_init 69 = .ok (.getfield 11, 3) := by decide +kernel
theorem dX3_init_72 : decode cX3_init 72 = .ok (.iload_n 1, 1) := by decide +kernel
theorem dX3_init_73 : decode cX3_init 73 = .ok (.new 9, 3) := by decide +kernel
theorem dX3_init_76 : decode cX3_init 76 = .ok (.dup, 1) := by decide +kernel
theorem dX3_init_77 : decode cX3_init 77 = .ok (.invokespecial 45, 3) := by decide +kernel
theorem dX3_init_80 : decode cX3_init 80 = .ok (.aastore, 1) := by decide +kernel
theorem dX3_init_81 : decode cX3_init 81 = .ok (.iinc 1 1, 3) := by decide +kernel
theorem dX3_init_84 : decode cX3_init 84 = .ok (.goto (-22), 3) := by decide +kernel
theorem dX3_init_87 : decode cX3_init 87 = .ok (.return_, 1) := by decide +kernel
set_option maxRecDepth 20000 in
theorem ggX3_addMember_X3_requireBetween : GoodIn wsX3_addMember wsX3_requireBetween := goodIn_ca (goodIn_r _ [9, 10, 11] (by decide +kernel) (by decide +kernel)) (goodIn_sub (fun _ h => List.mem_cons_of_mem _ (List.mem_append_right _ h)) (by decide +kernel))
set_option maxRecDepth 20000 in
theorem gX3_addMember_X3_requireBetween : GoodIn wsX3_addMember (va_wsS RX3 47 yX3_requireBetween wsX3_requireBetween) := goodIn_app (goodIn_of _ (by decide +kernel)) ggX3_addMember_X3_requireBetween
set_option maxRecDepth 20000 in
theorem ggX3_addMember_X1_join : GoodIn wsX3_addMember wsX1_join := goodIn_r _ [15, 16, 17, 18, 27, 28, 29, 30, 31, 32, 33, 34, 35, 36, 37, 38, 39] (by decide +kernel) (by decide +kernel)
set_option maxRecDepth 20000 in
theorem gX3_addMember_X1_join_n58 : GoodIn wsX3_addMember (wsX1_join) := ggX3_addMember_X1_join
theorem dX3_addMember_0 : decode cX3_addMember 0 = .ok (.iload_n 1, 1) := by decide +kernel
theorem dX3_addMember_1 : decode cX3_addMember 1 = .ok (.iconst 0, 1) := by decide +kernel
theorem dX3_addMember_2 : decode cX3_addMember 2 = .ok (.ldc 46, 2) := by decide +kernel
theorem dX3_addMember_4 : decode cX3_addMember 4 = .ok (.invokestatic 47, 3) := by decide +kernel
theorem dX3_addMember_7 : decode cX3_addMember 7 = .ok (.iload_n 2, 1) := by decide +kernel
theorem dX3_addMember_8 : decode cX3_addMember 8 = .ok (.iconst 0, 1) := by decide +kernel
theorem dX3_addMember_9 : decode cX3_addMember 9 = .ok (.ldc 46, 2) := by decide +kernel
theorem dX3_addMember_11 : decode cX3_addMember 11 = .ok (.invokestatic 47, 3) := by decide +kernel
theorem dX3_addMember_14 : decode cX3_addMember 14 = .ok (.iload_n 3, 1) := by decide +kernel
theorem dX3_addMember_15 : decode cX3_addMember 15 = .ok (.iconst 0, 1) := by decide +kernel
theorem dX3_addMember_16 : decode cX3_addMember 16 = .ok (.bipush 100, 2) := by decide +kernel
theorem dX3_addMember_18 : decode cX3_addMember 18 = .ok (.invokestatic 47, 3) := by decide +kernel
theorem dX3_addMember_21 : decode cX3_addMember 21 = .ok (.aload_n 0, 1) := by decide +kernel
theorem dX3_addMember_22 : decode cX3_addMember 22 = .ok (.getfield 29, 3) := by decide +kernel
theorem dX3_addMember_25 : decode cX3_addMember 25 = .ok (.bipush 10, 2) := by decide +kernel
theorem dX3_addMember_27 : decode cX3_addMember 27 = .ok (.if_icmp .lt 13, 3) := by decide +kernel
theorem dX3_addMember_30 : decode cX3_addMember 30 = .ok (.new 51, 3) := by decide +kernel
theorem dX3_addMember_33 : decode cX3_addMember 33 = .ok (.dup, 1) := by decide +kernel
theorem dX3_addMember_34 : decode cX3_addMember 34 = .ok (.ldc 53, 2) := by decide +kernel
theorem dX3_addMember_36 : decode cX3_addMember 36 = .ok (.invokespecial 55, 3) := by decide +kernel
theorem dX3_addMember_39 : decode cX3_addMember 39 = .ok (.athrow, 1) := by decide +kernel
theorem dX3_addMember_40 : decode cX3_addMember 40 = .ok (.aload_n 0, 1) := by decide +kernel
theorem dX3_addMember_41 : decode cX3_addMember 41 = .ok (.getfield 11, 3) := by decide +kernel
theorem dX3_addMember_44 : decode cX3_addMember 44 = .ok (.aload_n 0, 1) := by decide +kernel
theorem dX3_addMember_45 : decode cX3_addMember 45 = .ok (.getfield 29, 3) := by decide +kernel
theorem dX3_addMember_48 : decode cX3_addMember 48 = .ok (.aaload, 1) := by decide +kernel
theorem dX3_addMember_49 : decode cX3_addMember 49 = .ok (.iload_n 1, 1) := by decide +kernel
theorem dX3_addMember_50 : decode cX3_addMember 50 = .ok (.iload_n 2, 1) := by decide +kernel
theorem dX3_addMember_51 : decode cX3_addMember 51 = .ok (.iload_n 3, 1) := by decide +kernel
theorem dX3_addMember_52 : decode cX3_addMember 52 = .ok (.invokevirtual 58, 3) := by decide +kernel
theorem dX3_addMember_55 : decode cX3_addMember 55 = .ok (.aload_n 0, 1) := by decide +kernel
theorem dX3_addMember_56 : decode cX3_addMember 56 = .ok (.dup, 1) := by decide +kernel
theorem dX3_addMember_57 : decode cX3_addMember 57 = .ok (.getfield 29, 3) := by decide +kernel
theorem dX3_addMember_60 : decode cX3_addMember 60 = .ok (.iconst 1, 1) := by decide +kernel
theorem dX3_addMember_61 : decode cX3_addMember 61 = .ok (.iadd, 1) := by decide +kernel
theorem dX3_addMember_62 : decode cX3_addMember 62 = .ok (.putfield 29, 3) := by decide +kernel
theorem dX3_addMember_65 : decode cX3_addMember 65 = .ok (.aload_n 0, 1) := by decide +kernel
theorem dX3_addMember_66 : decode cX3_addMember 66 = .ok (.getfield 29, 3) := by decide +kernel
theorem dX3_addMember_69 : decode cX3_addMember 69 = .ok (.iconst 1, 1) := by decide +kernel
theorem dX3_addMember_70 : decode cX3_addMember 70 = .ok (.isub, 1) := by decide +kernel
theorem dX3_addMember_71 : decode cX3_addMember 71 = .ok (.ireturn, 1) := by decide +kernel
set_option maxRecDepth 20000 in
theorem ggX3_addClient_X3_existing : GoodIn wsX3_addClient wsX3_existing := goodIn_ca (goodIn_r _ [7, 8, 9, 10, 11, 36, 37, 38, 39, 40, 41, 42, 43] (by decide +kernel) (by decide +kernel)) (goodIn_sub (fun _ h => List.mem_cons_of_mem _ (List.mem_append_left _ (List.mem_append_right _ h))) (by decide +kernel))
set_option maxRecDepth 20000 in
theorem gX3_addClient_X3_existing : GoodIn wsX3_addClient (wsV RX3 61 RX3 yX3_existing wsX3_existing) := goodIn_app (goodIn_of _ (by decide +kernel)) ggX3_addClient_X3_existing
set_option maxRecDepth 20000 in
theorem ggX3_addClient_X3_requireBetween : GoodIn wsX3_addClient wsX3_requireBetween := goodIn_ca (goodIn_r _ [14, 15, 16] (by decide +kernel) (by decide +kernel)) (goodIn_sub (fun _ h => List.mem_cons_of_mem _ (List.mem_append_right _ h)) (by decide +kernel))
set_option maxRecDepth 20000 in
theorem gX3_addClient_X3_requireBetween : GoodIn wsX3_addClient (va_wsS RX3 47 yX3_requireBetween wsX3_requireBetween) := goodIn_app (goodIn_of _ (by decide +kernel)) ggX3_addClient_X3_requireBetween
set_option maxRecDepth 20000 in
theorem ggX3_addClient_X3_requireActive : GoodIn wsX3_addClient wsX3_requireActive := goodIn_ca (goodIn_r _ [19, 1, 2, 20, 21, 22, 23, 24, 44, 45, 46, 47, 48, 49, 50, 51, 52, 53, 54, 55, 56] (by decide +kernel) (by decide +kernel)) (goodIn_sub (fun _ h => List.mem_cons_of_mem _ (List.mem_append_left _ (List.mem_append_left _ (List.mem_append_right _ h)))) (by decide +kernel))
set_option maxRecDepth 20000 in
theorem gX3_addClient_X3_requireActive : GoodIn wsX3_addClient (va_wsS RX3 65 yX3_requireActive wsX3_requireActive) := goodIn_app (goodIn_of _ (by decide +kernel)) ggX3_addClient_X3_requireActive
set_option maxRecDepth 20000 in
theorem ggX3_addClient_X1_takesClient : GoodIn wsX3_addClient wsX1_takesClient := goodIn_r _ [27, 28, 29, 30, 31, 32, 33, 21, 34, 35, 44, 45, 46, 47, 48, 49, 50, 51, 52, 53, 54, 55, 56] (by decide +kernel) (by decide +kernel)
set_option maxRecDepth 20000 in
theorem gX3_addClient_X1_takesClient_n69 : GoodIn wsX3_addClient (wsX1_takesClient) := ggX3_addClient_X1_takesClient
set_option maxRecDepth 20000 in
theorem ggX3_addClient_X1_freeRoom : GoodIn wsX3_addClient wsX1_freeRoom := goodIn_r _ [34, 35, 30, 44, 45, 46, 47, 48, 49, 50, 51, 52, 53, 54, 55, 56] (by decide +kernel) (by decide +kernel)
set_option maxRecDepth 20000 in
theorem gX3_addClient_X1_freeRoom_n75 : GoodIn wsX3_addClient (wsX1_freeRoom) := ggX3_addClient_X1_freeRoom
theorem dX3_addClient_0 : decode cX3_addClient 0 = .ok (.aload_n 0, 1) := by decide +kernel
theorem dX3_addClient_1 : decode cX3_addClient 1 = .ok (.iload_n 1, 1) := by decide +kernel
theorem dX3_addClient_2 : decode cX3_addClient 2 = .ok (.invokevirtual 61, 3) := by decide +kernel
theorem dX3_addClient_5 : decode cX3_addClient 5 = .ok (.astore_n 3, 1) := by decide +kernel
theorem dX3_addClient_6 : decode cX3_addClient 6 = .ok (.iload_n 2, 1) := by decide +kernel
theorem dX3_addClient_7 : decode cX3_addClient 7 = .ok (.iconst 1, 1) := by decide +kernel
theorem dX3_addClient_8 : decode cX3_addClient 8 = .ok (.bipush 20, 2) := by decide +kernel
theorem dX3_addClient_10 : decode cX3_addClient 10 = .ok (.invokestatic 47, 3) := by decide +kernel
theorem dX3_addClient_13 : decode cX3_addClient 13 = .ok (.aload_n 3, 1) := by decide +kernel
theorem dX3_addClient_14 : decode cX3_addClient 14 = .ok (.invokestatic 65, 3) := by decide +kernel
theorem dX3_addClient_17 : decode cX3_addClient 17 = .ok (.aload_n 3, 1) := by decide +kernel
theorem dX3_addClient_18 : decode cX3_addClient 18 = .ok (.iload_n 2, 1) := by decide +kernel
theorem dX3_addClient_19 : decode cX3_addClient 19 = .ok (.invokevirtual 69, 3) := by decide +kernel
theorem dX3_addClient_22 : decode cX3_addClient 22 = .ok (.ifCond .ne 13, 3) := by decide +kernel
theorem dX3_addClient_25 : decode cX3_addClient 25 = .ok (.new 51, 3) := by decide +kernel
theorem dX3_addClient_28 : decode cX3_addClient 28 = .ok (.dup, 1) := by decide +kernel
theorem dX3_addClient_29 : decode cX3_addClient 29 = .ok (.ldc 73, 2) := by decide +kernel
theorem dX3_addClient_31 : decode cX3_addClient 31 = .ok (.invokespecial 55, 3) := by decide +kernel
theorem dX3_addClient_34 : decode cX3_addClient 34 = .ok (.athrow, 1) := by decide +kernel
theorem dX3_addClient_35 : decode cX3_addClient 35 = .ok (.aload_n 3, 1) := by decide +kernel
theorem dX3_addClient_36 : decode cX3_addClient 36 = .ok (.invokevirtual 75, 3) := by decide +kernel
theorem dX3_addClient_39 : decode cX3_addClient 39 = .ok (.ireturn, 1) := by decide +kernel
set_option maxRecDepth 20000 in
theorem ggX3_setGain_X3_existing : GoodIn wsX3_setGain wsX3_existing := goodIn_ca (goodIn_r _ [6, 7, 8, 9, 10, 39, 40, 41, 42, 43, 44, 45, 46] (by decide +kernel) (by decide +kernel)) (goodIn_sub (fun _ h => List.mem_cons_of_mem _ (List.mem_append_left _ (List.mem_append_left _ (List.mem_append_right _ h)))) (by decide +kernel))
set_option maxRecDepth 20000 in
theorem gX3_setGain_X3_existing : GoodIn wsX3_setGain (wsV RX3 61 RX3 yX3_existing wsX3_existing) := goodIn_app (goodIn_of _ (by decide +kernel)) ggX3_setGain_X3_existing
set_option maxRecDepth 20000 in
theorem ggX3_setGain_X3_requireBetween : GoodIn wsX3_setGain wsX3_requireBetween := goodIn_ca (goodIn_r _ [13, 14, 15] (by decide +kernel) (by decide +kernel)) (goodIn_sub (fun _ h => List.mem_cons_of_mem _ (List.mem_append_left _ (List.mem_append_right _ h))) (by decide +kernel))
set_option maxRecDepth 20000 in
theorem gX3_setGain_X3_requireBetween : GoodIn wsX3_setGain (va_wsS RX3 47 yX3_requireBetween wsX3_requireBetween) := goodIn_app (goodIn_of _ (by decide +kernel)) ggX3_setGain_X3_requireBetween
set_option maxRecDepth 20000 in
theorem ggX3_setGain_X3_requireActive : GoodIn wsX3_setGain wsX3_requireActive := goodIn_ca (goodIn_r _ [18, 19, 20, 21, 22, 23, 24, 25, 26, 27, 28, 29, 30, 31, 32, 33, 34, 35, 36, 37, 38] (by decide +kernel) (by decide +kernel)) (goodIn_sub (fun _ h => List.mem_cons_of_mem _ (List.mem_append_right _ h)) (by decide +kernel))
set_option maxRecDepth 20000 in
theorem gX3_setGain_X3_requireActive : GoodIn wsX3_setGain (va_wsS RX3 65 yX3_requireActive wsX3_requireActive) := goodIn_app (goodIn_of _ (by decide +kernel)) ggX3_setGain_X3_requireActive
theorem dX3_setGain_0 : decode cX3_setGain 0 = .ok (.aload_n 0, 1) := by decide +kernel
theorem dX3_setGain_1 : decode cX3_setGain 1 = .ok (.iload_n 1, 1) := by decide +kernel
theorem dX3_setGain_2 : decode cX3_setGain 2 = .ok (.invokevirtual 61, 3) := by decide +kernel
theorem dX3_setGain_5 : decode cX3_setGain 5 = .ok (.astore_n 3, 1) := by decide +kernel
theorem dX3_setGain_6 : decode cX3_setGain 6 = .ok (.iload_n 2, 1) := by decide +kernel
theorem dX3_setGain_7 : decode cX3_setGain 7 = .ok (.iconst 0, 1) := by decide +kernel
theorem dX3_setGain_8 : decode cX3_setGain 8 = .ok (.ldc 46, 2) := by decide +kernel
theorem dX3_setGain_10 : decode cX3_setGain 10 = .ok (.invokestatic 47, 3) := by decide +kernel
theorem dX3_setGain_13 : decode cX3_setGain 13 = .ok (.aload_n 3, 1) := by decide +kernel
theorem dX3_setGain_14 : decode cX3_setGain 14 = .ok (.invokestatic 65, 3) := by decide +kernel
theorem dX3_setGain_17 : decode cX3_setGain 17 = .ok (.aload_n 3, 1) := by decide +kernel
theorem dX3_setGain_18 : decode cX3_setGain 18 = .ok (.getfield 79, 3) := by decide +kernel
theorem dX3_setGain_21 : decode cX3_setGain 21 = .ok (.istore 4, 2) := by decide +kernel
theorem dX3_setGain_23 : decode cX3_setGain 23 = .ok (.aload_n 3, 1) := by decide +kernel
theorem dX3_setGain_24 : decode cX3_setGain 24 = .ok (.iload_n 2, 1) := by decide +kernel
theorem dX3_setGain_25 : decode cX3_setGain 25 = .ok (.putfield 79, 3) := by decide +kernel
theorem dX3_setGain_28 : decode cX3_setGain 28 = .ok (.iload 4, 2) := by decide +kernel
theorem dX3_setGain_30 : decode cX3_setGain 30 = .ok (.ireturn, 1) := by decide +kernel
set_option maxRecDepth 20000 in
theorem ggX3_setTested_X3_existing : GoodIn wsX3_setTested wsX3_existing := goodIn_ca (goodIn_r _ [6, 7, 8, 9, 10, 39, 40, 41, 42, 43, 44, 45, 46] (by decide +kernel) (by decide +kernel)) (goodIn_sub (fun _ h => List.mem_cons_of_mem _ (List.mem_append_left _ (List.mem_append_left _ (List.mem_append_right _ h)))) (by decide +kernel))
set_option maxRecDepth 20000 in
theorem gX3_setTested_X3_existing : GoodIn wsX3_setTested (wsV RX3 61 RX3 yX3_existing wsX3_existing) := goodIn_app (goodIn_of _ (by decide +kernel)) ggX3_setTested_X3_existing
set_option maxRecDepth 20000 in
theorem ggX3_setTested_X3_requireBetween : GoodIn wsX3_setTested wsX3_requireBetween := goodIn_ca (goodIn_r _ [13, 14, 15] (by decide +kernel) (by decide +kernel)) (goodIn_sub (fun _ h => List.mem_cons_of_mem _ (List.mem_append_left _ (List.mem_append_right _ h))) (by decide +kernel))
set_option maxRecDepth 20000 in
theorem gX3_setTested_X3_requireBetween : GoodIn wsX3_setTested (va_wsS RX3 47 yX3_requireBetween wsX3_requireBetween) := goodIn_app (goodIn_of _ (by decide +kernel)) ggX3_setTested_X3_requireBetween
set_option maxRecDepth 20000 in
theorem ggX3_setTested_X3_requireActive : GoodIn wsX3_setTested wsX3_requireActive := goodIn_ca (goodIn_r _ [18, 19, 20, 21, 22, 23, 24, 25, 26, 27, 28, 29, 30, 31, 32, 33, 34, 35, 36, 37, 38] (by decide +kernel) (by decide +kernel)) (goodIn_sub (fun _ h => List.mem_cons_of_mem _ (List.mem_append_right _ h)) (by decide +kernel))
set_option maxRecDepth 20000 in
theorem gX3_setTested_X3_requireActive : GoodIn wsX3_setTested (va_wsS RX3 65 yX3_requireActive wsX3_requireActive) := goodIn_app (goodIn_of _ (by decide +kernel)) ggX3_setTested_X3_requireActive
theorem dX3_setTested_0 : decode cX3_setTested 0 = .ok (.aload_n 0, 1) := by decide +kernel
theorem dX3_setTested_1 : decode cX3_setTested 1 = .ok (.iload_n 1, 1) := by decide +kernel
theorem dX3_setTested_2 : decode cX3_setTested 2 = .ok (.invokevirtual 61, 3) := by decide +kernel
theorem dX3_setTested_5 : decode cX3_setTested 5 = .ok (.astore_n 3, 1) := by decide +kernel
theorem dX3_setTested_6 : decode cX3_setTested 6 = .ok (.iload_n 2, 1) := by decide +kernel
theorem dX3_setTested_7 : decode cX3_setTested 7 = .ok (.iconst 0, 1) := by decide +kernel
theorem dX3_setTested_8 : decode cX3_setTested 8 = .ok (.ldc 46, 2) := by decide +kernel
theorem dX3_setTested_10 : decode cX3_setTested 10 = .ok (.invokestatic 47, 3) := by decide +kernel
theorem dX3_setTested_13 : decode cX3_setTested 13 = .ok (.aload_n 3, 1) := by decide +kernel
theorem dX3_setTested_14 : decode cX3_setTested 14 = .ok (.invokestatic 65, 3) := by decide +kernel
theorem dX3_setTested_17 : decode cX3_setTested 17 = .ok (.aload_n 3, 1) := by decide +kernel
theorem dX3_setTested_18 : decode cX3_setTested 18 = .ok (.getfield 82, 3) := by decide +kernel
theorem dX3_setTested_21 : decode cX3_setTested 21 = .ok (.istore 4, 2) := by decide +kernel
theorem dX3_setTested_23 : decode cX3_setTested 23 = .ok (.aload_n 3, 1) := by decide +kernel
theorem dX3_setTested_24 : decode cX3_setTested 24 = .ok (.iload_n 2, 1) := by decide +kernel
theorem dX3_setTested_25 : decode cX3_setTested 25 = .ok (.putfield 82, 3) := by decide +kernel
theorem dX3_setTested_28 : decode cX3_setTested 28 = .ok (.iload 4, 2) := by decide +kernel
theorem dX3_setTested_30 : decode cX3_setTested 30 = .ok (.ireturn, 1) := by decide +kernel
set_option maxRecDepth 20000 in
theorem ggX3_setCapital_X3_requireBetween : GoodIn wsX3_setCapital wsX3_requireBetween := goodIn_ca (goodIn_r _ [6, 7, 8] (by decide +kernel) (by decide +kernel)) (goodIn_sub (fun _ h => List.mem_cons_of_mem _ (List.mem_append_right _ h)) (by decide +kernel))
set_option maxRecDepth 20000 in
theorem gX3_setCapital_X3_requireBetween : GoodIn wsX3_setCapital (va_wsS RX3 47 yX3_requireBetween wsX3_requireBetween) := goodIn_app (goodIn_of _ (by decide +kernel)) ggX3_setCapital_X3_requireBetween
theorem dX3_setCapital_0 : decode cX3_setCapital 0 = .ok (.iload_n 1, 1) := by decide +kernel
theorem dX3_setCapital_1 : decode cX3_setCapital 1 = .ok (.iconst 0, 1) := by decide +kernel
theorem dX3_setCapital_2 : decode cX3_setCapital 2 = .ok (.ldc 46, 2) := by decide +kernel
theorem dX3_setCapital_4 : decode cX3_setCapital 4 = .ok (.invokestatic 47, 3) := by decide +kernel
theorem dX3_setCapital_7 : decode cX3_setCapital 7 = .ok (.aload_n 0, 1) := by decide +kernel
theorem dX3_setCapital_8 : decode cX3_setCapital 8 = .ok (.getfield 33, 3) := by decide +kernel
theorem dX3_setCapital_11 : decode cX3_setCapital 11 = .ok (.istore_n 2, 1) := by decide +kernel
theorem dX3_setCapital_12 : decode cX3_setCapital 12 = .ok (.aload_n 0, 1) := by decide +kernel
theorem dX3_setCapital_13 : decode cX3_setCapital 13 = .ok (.iload_n 1, 1) := by decide +kernel
theorem dX3_setCapital_14 : decode cX3_setCapital 14 = .ok (.putfield 33, 3) := by decide +kernel
theorem dX3_setCapital_17 : decode cX3_setCapital 17 = .ok (.iload_n 2, 1) := by decide +kernel
theorem dX3_setCapital_18 : decode cX3_setCapital 18 = .ok (.ireturn, 1) := by decide +kernel
set_option maxRecDepth 20000 in
theorem ggX3_giveNotice_X3_existing : GoodIn wsX3_giveNotice wsX3_existing := goodIn_ca (goodIn_r _ [7, 8, 9, 10, 11, 30, 31, 32, 33, 34, 35, 36, 37] (by decide +kernel) (by decide +kernel)) (goodIn_sub (fun _ h => List.mem_cons_of_mem _ (List.mem_append_right _ h)) (by decide +kernel))
set_option maxRecDepth 20000 in
theorem gX3_giveNotice_X3_existing : GoodIn wsX3_giveNotice (wsV RX3 61 RX3 yX3_existing wsX3_existing) := goodIn_app (goodIn_of _ (by decide +kernel)) ggX3_giveNotice_X3_existing
set_option maxRecDepth 20000 in
theorem ggX3_giveNotice_X3_requireNoFailure : GoodIn wsX3_giveNotice wsX3_requireNoFailure := goodIn_ca (goodIn_r _ [15, 1, 2, 16, 30, 31, 32, 33, 34, 35, 36, 37] (by decide +kernel) (by decide +kernel)) (goodIn_sub (fun _ h => List.mem_cons_of_mem _ (List.mem_append_left _ (List.mem_append_right _ h))) (by decide +kernel))
set_option maxRecDepth 20000 in
theorem gX3_giveNotice_X3_requireNoFailure : GoodIn wsX3_giveNotice (wsV RX3 90 RX3 yX3_requireNoFailure wsX3_requireNoFailure) := goodIn_app (goodIn_of _ (by decide +kernel)) ggX3_giveNotice_X3_requireNoFailure
theorem dX3_giveNotice_0 : decode cX3_giveNotice 0 = .ok (.aload_n 0, 1) := by decide +kernel
theorem dX3_giveNotice_1 : decode cX3_giveNotice 1 = .ok (.iload_n 1, 1) := by decide +kernel
theorem dX3_giveNotice_2 : decode cX3_giveNotice 2 = .ok (.invokevirtual 61, 3) := by decide +kernel
theorem dX3_giveNotice_5 : decode cX3_giveNotice 5 = .ok (.astore_n 2, 1) := by decide +kernel
theorem dX3_giveNotice_6 : decode cX3_giveNotice 6 = .ok (.aload_n 2, 1) := by decide +kernel
theorem dX3_giveNotice_7 : decode cX3_giveNotice 7 = .ok (.getfield 85, 3) := by decide +kernel
theorem dX3_giveNotice_10 : decode cX3_giveNotice 10 = .ok (.ifCond .eq 13, 3) := by decide +kernel
theorem dX3_giveNotice_13 : decode cX3_giveNotice 13 = .ok (.new 51, 3) := by decide +kernel
theorem dX3_giveNotice_16 : decode cX3_giveNotice 16 = .ok (.dup, 1) := by decide +kernel
theorem dX3_giveNotice_17 : decode cX3_giveNotice 17 = .ok (.ldc 88, 2) := by decide +kernel
theorem dX3_giveNotice_19 : decode cX3_giveNotice 19 = .ok (.invokespecial 55, 3) := by decide +kernel
theorem dX3_giveNotice_22 : decode cX3_giveNotice 22 = .ok (.athrow, 1) := by decide +kernel
theorem dX3_giveNotice_23 : decode cX3_giveNotice 23 = .ok (.aload_n 0, 1) := by decide +kernel
theorem dX3_giveNotice_24 : decode cX3_giveNotice 24 = .ok (.invokevirtual 90, 3) := by decide +kernel
theorem dX3_giveNotice_27 : decode cX3_giveNotice 27 = .ok (.aload_n 2, 1) := by decide +kernel
theorem dX3_giveNotice_28 : decode cX3_giveNotice 28 = .ok (.iconst 1, 1) := by decide +kernel
theorem dX3_giveNotice_29 : decode cX3_giveNotice 29 = .ok (.putfield 85, 3) := by decide +kernel
theorem dX3_giveNotice_32 : decode cX3_giveNotice 32 = .ok (.return_, 1) := by decide +kernel
set_option maxRecDepth 20000 in
theorem ggX3_size_X3_requireNoFailure : GoodIn wsX3_size wsX3_requireNoFailure := goodIn_ca (goodIn_r _ [8, 9, 10, 11, 60, 61, 62, 63, 64, 65, 66, 67] (by decide +kernel) (by decide +kernel)) (goodIn_sub (fun _ h => List.mem_cons_of_mem _ (List.mem_append_right _ h)) (by decide +kernel))
set_option maxRecDepth 20000 in
theorem gX3_size_X3_requireNoFailure : GoodIn wsX3_size (wsV RX3 90 RX3 yX3_requireNoFailure wsX3_requireNoFailure) := goodIn_app (goodIn_of _ (by decide +kernel)) ggX3_size_X3_requireNoFailure
set_option maxRecDepth 20000 in
theorem ggX3_size_X3_neededFund : GoodIn wsX3_size wsX3_neededFund := goodIn_r _ [15, 1, 2, 16, 17, 18, 19, 20, 21, 22, 23, 24, 25, 26, 27, 60, 61, 62, 63, 64, 65, 66, 67, 68, 69, 70, 71, 72, 73, 74, 75, 76, 77, 78, 79, 80] (by decide +kernel) (by decide +kernel)
set_option maxRecDepth 20000 in
theorem gX3_size_X3_neededFund : GoodIn wsX3_size (wsV RX3 93 RX3 yX3_neededFund wsX3_neededFund) := goodIn_app (goodIn_of _ (by decide +kernel)) ggX3_size_X3_neededFund
set_option maxRecDepth 20000 in
theorem ggX3_size_X1_isActive : GoodIn wsX3_size wsX1_isActive := goodIn_r _ [26, 27, 68, 69, 70, 71, 72, 73, 74, 75, 76, 77, 78, 79, 80] (by decide +kernel) (by decide +kernel)
set_option maxRecDepth 20000 in
theorem gX3_size_X1_isActive_n96 : GoodIn wsX3_size (wsX1_isActive) := ggX3_size_X1_isActive
set_option maxRecDepth 20000 in
theorem ggX3_size_X2_enter : GoodIn wsX3_size wsX2_enter := goodIn_r _ [31, 32, 33, 81, 82, 83] (by decide +kernel) (by decide +kernel)
set_option maxRecDepth 20000 in
theorem gX3_size_X2_enter_n103 : GoodIn wsX3_size (wsX2_enter) := ggX3_size_X2_enter
set_option maxRecDepth 20000 in
theorem ggX3_size_X2_part : GoodIn wsX3_size wsX2_part := goodIn_r _ [36, 32, 37, 33, 38, 17, 18, 19, 39, 40, 41, 29, 42, 43, 44, 45, 46, 47, 21, 22, 48, 49, 50, 51, 81, 82, 83] (by decide +kernel) (by decide +kernel)
set_option maxRecDepth 20000 in
theorem gX3_size_X2_part_n106 : GoodIn wsX3_size (wsX2_part) := ggX3_size_X2_part
set_option maxRecDepth 20000 in
theorem ggX3_size_X2_partOf : GoodIn wsX3_size wsX2_partOf := goodIn_r _ [54, 37, 81, 82, 83] (by decide +kernel) (by decide +kernel)
set_option maxRecDepth 20000 in
theorem gX3_size_X2_partOf_n110 : GoodIn wsX3_size (wsX2_partOf) := ggX3_size_X2_partOf
set_option maxRecDepth 20000 in
theorem ggX3_size_X1_raiseShare : GoodIn wsX3_size wsX1_raiseShare := goodIn_r _ [57, 58, 59, 21, 18, 22, 68, 69, 70, 71, 72, 73, 74, 75, 76, 77, 78, 79, 80] (by decide +kernel) (by decide +kernel)
set_option maxRecDepth 20000 in
theorem gX3_size_X1_raiseShare_n113 : GoodIn wsX3_size (wsX1_raiseShare) := ggX3_size_X1_raiseShare
theorem dX3_size_0 : decode cX3_size 0 = .ok (.aload_n 0, 1) := by decide +kernel
theorem dX3_size_1 : decode cX3_size 1 = .ok (.invokevirtual 90, 3) := by decide +kernel
theorem dX3_size_4 : decode cX3_size 4 = .ok (.aload_n 0, 1) := by decide +kernel
theorem dX3_size_5 : decode cX3_size 5 = .ok (.invokevirtual 93, 3) := by decide +kernel
theorem dX3_size_8 : decode cX3_size 8 = .ok (.istore_n 1, 1) := by decide +kernel
theorem dX3_size_9 : decode cX3_size 9 = .ok (.iconst 0, 1) := by decide +kernel
theorem dX3_size_10 : decode cX3_size 10 = .ok (.istore_n 2, 1) := by decide +kernel
theorem dX3_size_11 : decode cX3_size 11 = .ok (.iload_n 2, 1) := by decide +kernel
theorem dX3_size_12 : decode cX3_size 12 = .ok (.aload_n 0, 1) := by decide +kernel
theorem dX3_size_13 : decode cX3_size 13 = .ok (.getfield 29, 3) := by decide +kernel
theorem dX3_size_16 : decode cX3_size 16 = .ok (.if_icmp .ge 40, 3) := by decide +kernel
theorem dX3_size_19 : decode cX3_size 19 = .ok (.aload_n 0, 1) := by decide +kernel
theorem dX3_size_20 : decode cX3_size 20 = .ok (.getfield 11, 3) := by decide +kernel
theorem dX3_size_23 : decode cX3_size 23 = .ok (.iload_n 2, 1) := by decide +kernel
theorem dX3_size_24 : decode cX3_size 24 = .ok (.aaload, 1) := by decide +kernel
theorem dX3_size_25 : decode cX3_size 25 = .ok (.astore_n 3, 1) := by decide +kernel
theorem dX3_size_26 : decode cX3_size 26 = .ok (.aload_n 0, 1) := by decide +kernel
theorem dX3_size_27 : decode cX3_size 27 = .ok (.getfield 25, 3) := by decide +kernel
theorem dX3_size_30 : decode cX3_size 30 = .ok (.iload_n 2, 1) := by decide +kernel
theorem dX3_size_31 : decode cX3_size 31 = .ok (.aload_n 3, 1) := by decide +kernel
theorem dX3_size_32 : decode cX3_size 32 = .ok (.invokevirtual 96, 3) := by decide +kernel
theorem dX3_size_35 : decode cX3_size 35 = .ok (.ifCond .eq 10, 3) := by decide +kernel
theorem dX3_size_38 : decode cX3_size 38 = .ok (.aload_n 3, 1) := by decide +kernel
theorem dX3_size_39 : decode cX3_size 39 = .ok (.getfield 100, 3) := by decide +kernel
theorem dX3_size_42 : decode cX3_size 42 = .ok (.goto 4, 3) := by decide +kernel
theorem dX3_size_45 : decode cX3_size 45 = .ok (.iconst 0, 1) := by decide +kernel
theorem dX3_size_46 : decode cX3_size 46 = .ok (.iload_n 1, 1) := by decide +kernel
theorem dX3_size_47 : decode cX3_size 47 = .ok (.invokevirtual 103, 3) := by decide +kernel
theorem dX3_size_50 : decode cX3_size 50 = .ok (.iinc 2 1, 3) := by decide +kernel
theorem dX3_size_53 : decode cX3_size 53 = .ok (.goto (-42), 3) := by decide +kernel
theorem dX3_size_56 : decode cX3_size 56 = .ok (.aload_n 0, 1) := by decide +kernel
theorem dX3_size_57 : decode cX3_size 57 = .ok (.getfield 25, 3) := by decide +kernel
theorem dX3_size_60 : decode cX3_size 60 = .ok (.iload_n 1, 1) := by decide +kernel
theorem dX3_size_61 : decode cX3_size 61 = .ok (.invokevirtual 106, 3) := by decide +kernel
theorem dX3_size_64 : decode cX3_size 64 = .ok (.pop, 1) := by decide +kernel
theorem dX3_size_65 : decode cX3_size 65 = .ok (.iconst 0, 1) := by decide +kernel
theorem dX3_size_66 : decode cX3_size 66 = .ok (.istore_n 2, 1) := by decide +kernel
theorem dX3_size_67 : decode cX3_size 67 = .ok (.iconst 0, 1) := by decide +kernel
theorem dX3_size_68 : decode cX3_size 68 = .ok (.istore_n 3, 1) := by decide +kernel
theorem dX3_size_69 : decode cX3_size 69 = .ok (.iload_n 3, 1) := by decide +kernel
theorem dX3_size_70 : decode cX3_size 70 = .ok (.aload_n 0, 1) := by decide +kernel
theorem dX3_size_71 : decode cX3_size 71 = .ok (.getfield 29, 3) := by decide +kernel
theorem dX3_size_74 : decode cX3_size 74 = .ok (.if_icmp .ge 29, 3) := by decide +kernel
theorem dX3_size_77 : decode cX3_size 77 = .ok (.iload_n 2, 1) := by decide +kernel
theorem dX3_size_78 : decode cX3_size 78 = .ok (.aload_n 0, 1) := by decide +kernel
theorem dX3_size_79 : decode cX3_size 79 = .ok (.getfield 11, 3) := by decide +kernel
theorem dX3_size_82 : decode cX3_size 82 = .ok (.iload_n 3, 1) := by decide +kernel
theorem dX3_size_83 : decode cX3_size 83 = .ok (.aaload, 1) := by decide +kernel
theorem dX3_size_84 : decode cX3_size 84 = .ok (.aload_n 0, 1) := by decide +kernel
theorem dX3_size_85 : decode cX3_size 85 = .ok (.getfield 25, 3) := by decide +kernel
theorem dX3_size_88 : decode cX3_size 88 = .ok (.iload_n 3, 1) := by decide +kernel
theorem dX3_size_89 : decode cX3_size 89 = .ok (.invokevirtual 110, 3) := by decide +kernel
theorem dX3_size_92 : decode cX3_size 92 = .ok (.invokevirtual 113, 3) := by decide +kernel
theorem dX3_size_95 : decode cX3_size 95 = .ok (.iadd, 1) := by decide +kernel
theorem dX3_size_96 : decode cX3_size 96 = .ok (.istore_n 2, 1) := by decide +kernel
theorem dX3_size_97 : decode cX3_size 97 = .ok (.iinc 3 1, 3) := by decide +kernel
theorem dX3_size_100 : decode cX3_size 100 = .ok (.goto (-31), 3) := by decide +kernel
theorem dX3_size_103 : decode cX3_size 103 = .ok (.iload_n 2, 1) := by decide +kernel
theorem dX3_size_104 : decode cX3_size 104 = .ok (.ireturn, 1) := by decide +kernel
set_option maxRecDepth 20000 in
theorem ggX3_fail_X3_existing : GoodIn wsX3_fail wsX3_existing := goodIn_ca (goodIn_r _ [9, 10, 11, 1, 2, 63, 64, 65, 66, 67, 68, 69, 70] (by decide +kernel) (by decide +kernel)) (goodIn_sub (fun _ h => List.mem_cons_of_mem _ (List.mem_append_left _ (List.mem_append_left _ (List.mem_append_right _ h)))) (by decide +kernel))
set_option maxRecDepth 20000 in
theorem gX3_fail_X3_existing : GoodIn wsX3_fail (wsV RX3 61 RX3 yX3_existing wsX3_existing) := goodIn_app (goodIn_of _ (by decide +kernel)) ggX3_fail_X3_existing
set_option maxRecDepth 20000 in
theorem ggX3_fail_X3_requireBetween : GoodIn wsX3_fail wsX3_requireBetween := goodIn_ca (goodIn_r _ [14, 15, 16] (by decide +kernel) (by decide +kernel)) (goodIn_sub (fun _ h => List.mem_cons_of_mem _ (List.mem_append_left _ (List.mem_append_right _ h))) (by decide +kernel))
set_option maxRecDepth 20000 in
theorem gX3_fail_X3_requireBetween : GoodIn wsX3_fail (va_wsS RX3 47 yX3_requireBetween wsX3_requireBetween) := goodIn_app (goodIn_of _ (by decide +kernel)) ggX3_fail_X3_requireBetween
set_option maxRecDepth 20000 in
theorem ggX3_fail_X3_requireActive : GoodIn wsX3_fail wsX3_requireActive := goodIn_ca (goodIn_r _ [19, 20, 21, 22, 23, 24, 25, 26, 71, 72, 73, 74, 75, 76, 77, 78, 79, 80, 81, 82, 83] (by decide +kernel) (by decide +kernel)) (goodIn_sub (fun _ h => List.mem_cons_of_mem _ (List.mem_append_right _ h)) (by decide +kernel))
set_option maxRecDepth 20000 in
theorem gX3_fail_X3_requireActive : GoodIn wsX3_fail (va_wsS RX3 65 yX3_requireActive wsX3_requireActive) := goodIn_app (goodIn_of _ (by decide +kernel)) ggX3_fail_X3_requireActive
set_option maxRecDepth 20000 in
theorem ggX3_fail_X3_requireNoFailure : GoodIn wsX3_fail wsX3_requireNoFailure := goodIn_ca (goodIn_r _ [30, 20, 21, 3, 63, 64, 65, 66, 67, 68, 69, 70] (by decide +kernel) (by decide +kernel)) (goodIn_sub (fun _ h => List.mem_cons_of_mem _ (List.mem_append_right _ h)) (by decide +kernel))
set_option maxRecDepth 20000 in
theorem gX3_fail_X3_requireNoFailure : GoodIn wsX3_fail (wsV RX3 90 RX3 yX3_requireNoFailure wsX3_requireNoFailure) := goodIn_app (goodIn_of _ (by decide +kernel)) ggX3_fail_X3_requireNoFailure
set_option maxRecDepth 20000 in
theorem ggX3_fail_X3_moveClients : GoodIn wsX3_fail wsX3_moveClients := goodIn_r _ [34, 35, 36, 37, 8, 38, 1, 2, 22, 23, 24, 25, 26, 39, 40, 41, 42, 43, 44, 45, 46, 47, 48, 49, 50, 51, 52, 71, 72, 73, 74, 75, 76, 77, 78, 79, 80, 81, 82, 83, 63, 64, 65, 66, 67, 68, 69, 70] (by decide +kernel) (by decide +kernel)
set_option maxRecDepth 20000 in
theorem gX3_fail_X3_moveClients : GoodIn wsX3_fail (wsV RX3 122 RX3 yX3_moveClients wsX3_moveClients) := goodIn_app (goodIn_of _ (by decide +kernel)) ggX3_fail_X3_moveClients
set_option maxRecDepth 20000 in
theorem ggX3_fail_X0_open : GoodIn wsX3_fail wsX0_open := goodIn_r _ [56, 57, 58, 59, 60, 61, 62, 84, 85] (by decide +kernel) (by decide +kernel)
set_option maxRecDepth 20000 in
theorem gX3_fail_X0_open_n126 : GoodIn wsX3_fail (wsX0_open) := ggX3_fail_X0_open
theorem dX3_fail_0 : decode cX3_fail 0 = .ok (.aload_n 0, 1) := by decide +kernel
theorem dX3_fail_1 : decode cX3_fail 1 = .ok (.iload_n 1, 1) := by decide +kernel
theorem dX3_fail_2 : decode cX3_fail 2 = .ok (.invokevirtual 61, 3) := by decide +kernel
theorem dX3_fail_5 : decode cX3_fail 5 = .ok (.astore_n 3, 1) := by decide +kernel
theorem dX3_fail_6 : decode cX3_fail 6 = .ok (.iload_n 2, 1) := by decide +kernel
theorem dX3_fail_7 : decode cX3_fail 7 = .ok (.iconst 1, 1) := by decide +kernel
theorem dX3_fail_8 : decode cX3_fail 8 = .ok (.bipush 20, 2) := by decide +kernel
theorem dX3_fail_10 : decode cX3_fail 10 = .ok (.invokestatic 47, 3) := by decide +kernel
theorem dX3_fail_13 : decode cX3_fail 13 = .ok (.aload_n 3, 1) := by decide +kernel
theorem dX3_fail_14 : decode cX3_fail 14 = .ok (.invokestatic 65, 3) := by decide +kernel
theorem dX3_fail_17 : decode cX3_fail 17 = .ok (.aload_n 0, 1) := by decide +kernel
theorem dX3_fail_18 : decode cX3_fail 18 = .ok (.invokevirtual 90, 3) := by decide +kernel
theorem dX3_fail_21 : decode cX3_fail 21 = .ok (.iconst 0, 1) := by decide +kernel
theorem dX3_fail_22 : decode cX3_fail 22 = .ok (.istore 4, 2) := by decide +kernel
theorem dX3_fail_24 : decode cX3_fail 24 = .ok (.iload 4, 2) := by decide +kernel
theorem dX3_fail_26 : decode cX3_fail 26 = .ok (.aload_n 0, 1) := by decide +kernel
theorem dX3_fail_27 : decode cX3_fail 27 = .ok (.getfield 29, 3) := by decide +kernel
theorem dX3_fail_30 : decode cX3_fail 30 = .ok (.if_icmp .ge 29, 3) := by decide +kernel
theorem dX3_fail_33 : decode cX3_fail 33 = .ok (.aload_n 0, 1) := by decide +kernel
theorem dX3_fail_34 : decode cX3_fail 34 = .ok (.getfield 11, 3) := by decide +kernel
theorem dX3_fail_37 : decode cX3_fail 37 = .ok (.iload 4, 2) := by decide +kernel
theorem dX3_fail_39 : decode cX3_fail 39 = .ok (.aaload, 1) := by decide +kernel
theorem dX3_fail_40 : decode cX3_fail 40 = .ok (.aload_n 0, 1) := by decide +kernel
theorem dX3_fail_41 : decode cX3_fail 41 = .ok (.getfield 11, 3) := by decide +kernel
theorem dX3_fail_44 : decode cX3_fail 44 = .ok (.iload 4, 2) := by decide +kernel
theorem dX3_fail_46 : decode cX3_fail 46 = .ok (.aaload, 1) := by decide +kernel
theorem dX3_fail_47 : decode cX3_fail 47 = .ok (.getfield 116, 3) := by decide +kernel
theorem dX3_fail_50 : decode cX3_fail 50 = .ok (.putfield 119, 3) := by decide +kernel
theorem dX3_fail_53 : decode cX3_fail 53 = .ok (.iinc 4 1, 3) := by decide +kernel
theorem dX3_fail_56 : decode cX3_fail 56 = .ok (.goto (-32), 3) := by decide +kernel
theorem dX3_fail_59 : decode cX3_fail 59 = .ok (.aload_n 0, 1) := by decide +kernel
theorem dX3_fail_60 : decode cX3_fail 60 = .ok (.iload_n 1, 1) := by decide +kernel
theorem dX3_fail_61 : decode cX3_fail 61 = .ok (.putfield 42, 3) := by decide +kernel
theorem dX3_fail_64 : decode cX3_fail 64 = .ok (.aload_n 3, 1) := by decide +kernel
theorem dX3_fail_65 : decode cX3_fail 65 = .ok (.iconst 2, 1) := by decide +kernel
theorem dX3_fail_66 : decode cX3_fail 66 = .ok (.putfield 85, 3) := by decide +kernel
theorem dX3_fail_69 : decode cX3_fail 69 = .ok (.iload_n 2, 1) := by decide +kernel
theorem dX3_fail_70 : decode cX3_fail 70 = .ok (.aload_n 0, 1) := by decide +kernel
theorem dX3_fail_71 : decode cX3_fail 71 = .ok (.aload_n 3, 1) := by decide +kernel
theorem dX3_fail_72 : decode cX3_fail 72 = .ok (.invokevirtual 122, 3) := by decide +kernel
theorem dX3_fail_75 : decode cX3_fail 75 = .ok (.iadd, 1) := by decide +kernel
theorem dX3_fail_76 : decode cX3_fail 76 = .ok (.istore 4, 2) := by decide +kernel
theorem dX3_fail_78 : decode cX3_fail 78 = .ok (.aload_n 0, 1) := by decide +kernel
theorem dX3_fail_79 : decode cX3_fail 79 = .ok (.getfield 18, 3) := by decide +kernel
theorem dX3_fail_82 : decode cX3_fail 82 = .ok (.iload 4, 2) := by decide +kernel
theorem dX3_fail_84 : decode cX3_fail 84 = .ok (.invokevirtual 126, 3) := by decide +kernel
theorem dX3_fail_87 : decode cX3_fail 87 = .ok (.iload 4, 2) := by decide +kernel
theorem dX3_fail_89 : decode cX3_fail 89 = .ok (.ireturn, 1) := by decide +kernel
set_option maxRecDepth 20000 in
theorem ggX3_bid_X3_existing : GoodIn wsX3_bid wsX3_existing := goodIn_ca (goodIn_r _ [11, 1, 2, 12, 13, 39, 40, 41, 42, 43, 44, 45, 46] (by decide +kernel) (by decide +kernel)) (goodIn_sub (fun _ h => List.mem_cons_of_mem _ (List.mem_append_left _ (List.mem_append_left _ (List.mem_append_right _ h)))) (by decide +kernel))
set_option maxRecDepth 20000 in
theorem gX3_bid_X3_existing : GoodIn wsX3_bid (wsV RX3 61 RX3 yX3_existing wsX3_existing) := goodIn_app (goodIn_of _ (by decide +kernel)) ggX3_bid_X3_existing
set_option maxRecDepth 20000 in
theorem ggX3_bid_X0_hasLot : GoodIn wsX3_bid wsX0_hasLot := goodIn_r _ [17, 18, 47, 48] (by decide +kernel) (by decide +kernel)
set_option maxRecDepth 20000 in
theorem gX3_bid_X0_hasLot_n130 : GoodIn wsX3_bid (wsX0_hasLot) := ggX3_bid_X0_hasLot
set_option maxRecDepth 20000 in
theorem ggX3_bid_X3_requireBetween : GoodIn wsX3_bid wsX3_requireBetween := goodIn_ca (goodIn_r _ [21, 22, 23] (by decide +kernel) (by decide +kernel)) (goodIn_sub (fun _ h => List.mem_cons_of_mem _ (List.mem_append_right _ h)) (by decide +kernel))
set_option maxRecDepth 20000 in
theorem gX3_bid_X3_requireBetween : GoodIn wsX3_bid (va_wsS RX3 47 yX3_requireBetween wsX3_requireBetween) := goodIn_app (goodIn_of _ (by decide +kernel)) ggX3_bid_X3_requireBetween
set_option maxRecDepth 20000 in
theorem ggX3_bid_X3_requireActive : GoodIn wsX3_bid wsX3_requireActive := goodIn_ca (goodIn_r _ [26, 3, 4, 27, 28, 29, 30, 31, 49, 50, 51, 52, 53, 54, 55, 56, 57, 58, 59, 60, 61] (by decide +kernel) (by decide +kernel)) (goodIn_sub (fun _ h => List.mem_cons_of_mem _ (List.mem_append_left _ (List.mem_append_right _ h))) (by decide +kernel))
set_option maxRecDepth 20000 in
theorem gX3_bid_X3_requireActive : GoodIn wsX3_bid (va_wsS RX3 65 yX3_requireActive wsX3_requireActive) := goodIn_app (goodIn_of _ (by decide +kernel)) ggX3_bid_X3_requireActive
set_option maxRecDepth 20000 in
theorem ggX3_bid_X0_bidOf : GoodIn wsX3_bid wsX0_bidOf := goodIn_r _ [34, 35, 47, 48] (by decide +kernel) (by decide +kernel)
set_option maxRecDepth 20000 in
theorem gX3_bid_X0_bidOf_n138 : GoodIn wsX3_bid (wsX0_bidOf) := ggX3_bid_X0_bidOf
set_option maxRecDepth 20000 in
theorem ggX3_bid_X0_enter : GoodIn wsX3_bid wsX0_enter := goodIn_r _ [38, 35, 47, 48] (by decide +kernel) (by decide +kernel)
set_option maxRecDepth 20000 in
theorem gX3_bid_X0_enter_n144 : GoodIn wsX3_bid (wsX0_enter) := ggX3_bid_X0_enter
theorem dX3_bid_0 : decode cX3_bid 0 = .ok (.aload_n 0, 1) := by decide +kernel
theorem dX3_bid_1 : decode cX3_bid 1 = .ok (.iload_n 1, 1) := by decide +kernel
theorem dX3_bid_2 : decode cX3_bid 2 = .ok (.invokevirtual 61, 3) := by decide +kernel
theorem dX3_bid_5 : decode cX3_bid 5 = .ok (.astore 4, 2) := by decide +kernel
theorem dX3_bid_7 : decode cX3_bid 7 = .ok (.aload_n 0, 1) := by decide +kernel
theorem dX3_bid_8 : decode cX3_bid 8 = .ok (.getfield 42, 3) := by decide +kernel
theorem dX3_bid_11 : decode cX3_bid 11 = .ok (.iconst (-1), 1) := by decide +kernel
theorem dX3_bid_12 : decode cX3_bid 12 = .ok (.if_icmp .eq 14, 3) := by decide +kernel
theorem dX3_bid_15 : decode cX3_bid 15 = .ok (.aload_n 0, 1) := by decide +kernel
theorem dX3_bid_16 : decode cX3_bid 16 = .ok (.getfield 18, 3) := by decide +kernel
theorem dX3_bid_19 : decode cX3_bid 19 = .ok (.iload_n 2, 1) := by decide +kernel
theorem dX3_bid_20 : decode cX3_bid 20 = .ok (.invokevirtual 130, 3) := by decide +kernel
theorem dX3_bid_23 : decode cX3_bid 23 = .ok (.ifCond .ne 13, 3) := by decide +kernel
theorem dX3_bid_26 : decode cX3_bid 26 = .ok (.new 133, 3) := by decide +kernel
theorem dX3_bid_29 : decode cX3_bid 29 = .ok (.dup, 1) := by decide +kernel
theorem dX3_bid_30 : decode cX3_bid 30 = .ok (.ldc 135, 2) := by decide +kernel
theorem dX3_bid_32 : decode cX3_bid 32 = .ok (.invokespecial 137, 3) := by decide +kernel
theorem dX3_bid_35 : decode cX3_bid 35 = .ok (.athrow, 1) := by decide +kernel
theorem dX3_bid_36 : decode cX3_bid 36 = .ok (.iload_n 3, 1) := by decide +kernel
theorem dX3_bid_37 : decode cX3_bid 37 = .ok (.sipush (-1000), 3) := by decide +kernel
theorem dX3_bid_40 : decode cX3_bid 40 = .ok (.sipush 1000, 3) := by decide +kernel
theorem dX3_bid_43 : decode cX3_bid 43 = .ok (.invokestatic 47, 3) := by decide +kernel
theorem dX3_bid_46 : decode cX3_bid 46 = .ok (.aload 4, 2) := by decide +kernel
theorem dX3_bid_48 : decode cX3_bid 48 = .ok (.invokestatic 65, 3) := by decide +kernel
theorem dX3_bid_51 : decode cX3_bid 51 = .ok (.aload_n 0, 1) := by decide +kernel
theorem dX3_bid_52 : decode cX3_bid 52 = .ok (.getfield 18, 3) := by decide +kernel
theorem dX3_bid_55 : decode cX3_bid 55 = .ok (.iload_n 1, 1) := by decide +kernel
theorem dX3_bid_56 : decode cX3_bid 56 = .ok (.iload_n 2, 1) := by decide +kernel
theorem dX3_bid_57 : decode cX3_bid 57 = .ok (.invokevirtual 138, 3) := by decide +kernel
theorem dX3_bid_60 : decode cX3_bid 60 = .ok (.sipush (-1001), 3) := by decide +kernel
theorem dX3_bid_63 : decode cX3_bid 63 = .ok (.if_icmp .eq 13, 3) := by decide +kernel
theorem dX3_bid_66 : decode cX3_bid 66 = .ok (.new 51, 3) := by decide +kernel
theorem dX3_bid_69 : decode cX3_bid 69 = .ok (.dup, 1) := by decide +kernel
theorem dX3_bid_70 : decode cX3_bid 70 = .ok (.ldc 142, 2) := by decide +kernel
theorem dX3_bid_72 : decode cX3_bid 72 = .ok (.invokespecial 55, 3) := by decide +kernel
theorem dX3_bid_75 : decode cX3_bid 75 = .ok (.athrow, 1) := by decide +kernel
theorem dX3_bid_76 : decode cX3_bid 76 = .ok (.aload_n 0, 1) := by decide +kernel
theorem dX3_bid_77 : decode cX3_bid 77 = .ok (.getfield 18, 3) := by decide +kernel
theorem dX3_bid_80 : decode cX3_bid 80 = .ok (.iload_n 1, 1) := by decide +kernel
theorem dX3_bid_81 : decode cX3_bid 81 = .ok (.iload_n 2, 1) := by decide +kernel
theorem dX3_bid_82 : decode cX3_bid 82 = .ok (.iload_n 3, 1) := by decide +kernel
theorem dX3_bid_83 : decode cX3_bid 83 = .ok (.invokevirtual 144, 3) := by decide +kernel
theorem dX3_bid_86 : decode cX3_bid 86 = .ok (.return_, 1) := by decide +kernel
set_option maxRecDepth 20000 in
theorem ggX3_close_X3_awardLots : GoodIn wsX3_close wsX3_awardLots := goodIn_r _ [15, 16, 9, 17, 18, 19, 20, 21, 22, 23, 24, 108, 109, 110, 111, 112, 113, 114, 115, 116, 117, 118, 119, 120, 121, 122, 123, 124, 125, 126, 127, 128, 129, 130] (by decide +kernel) (by decide +kernel)
set_option maxRecDepth 20000 in
theorem gX3_close_X3_awardLots : GoodIn wsX3_close (wsV RX3 147 RX3 yX3_awardLots wsX3_awardLots) := goodIn_app (goodIn_of _ (by decide +kernel)) ggX3_close_X3_awardLots
set_option maxRecDepth 20000 in
theorem ggX3_close_X3_rankBidders : GoodIn wsX3_close wsX3_rankBidders := goodIn_r _ [28, 29, 9, 16, 30, 31, 32, 33, 34, 35, 18, 36, 37, 38, 21, 39, 40, 41, 42, 43, 17, 19, 20, 108, 109, 110, 111, 112, 113, 114, 115, 118, 119, 120, 121, 122, 123, 124, 125, 126, 127, 128, 129, 130, 116, 117] (by decide +kernel) (by decide +kernel)
set_option maxRecDepth 20000 in
theorem gX3_close_X3_rankBidders : GoodIn wsX3_close (wsV RX3 155 RX3 yX3_rankBidders wsX3_rankBidders) := goodIn_app (goodIn_of _ (by decide +kernel)) ggX3_close_X3_rankBidders
set_option maxRecDepth 20000 in
theorem ggX3_close_X3_eatLoss : GoodIn wsX3_close wsX3_eatLoss := goodIn_r _ [47, 8, 48, 49, 6, 50, 51, 52, 53, 54, 14, 55, 29, 9, 56, 30, 31, 32, 33, 34, 57, 58, 59, 60, 61, 62, 63, 64, 65, 66, 67, 68, 69, 70, 71, 72, 73, 74, 75, 76, 5, 7, 77, 78, 79, 80, 81, 82, 83, 84, 85, 86, 87, 88, 89, 90, 91, 108, 109, 110, 111, 112, 113, 114, 115, 118, 119, 120, 121, 122, 123, 124, 125, 126, 127, 128, 129, 130, 131, 132, 133] (by decide +kernel) (by decide +kernel)
set_option maxRecDepth 20000 in
theorem gX3_close_X3_eatLoss : GoodIn wsX3_close (wsV RX3 158 RX3 yX3_eatLoss wsX3_eatLoss) := goodIn_app (goodIn_of _ (by decide +kernel)) ggX3_close_X3_eatLoss
set_option maxRecDepth 20000 in
theorem ggX3_close_X3_endFailure : GoodIn wsX3_close wsX3_endFailure := goodIn_r _ [95, 29, 9, 3, 96, 31, 97, 98, 99, 100, 101, 102, 103, 104, 105, 106, 107, 108, 109, 110, 111, 112, 113, 114, 115, 118, 119, 120, 121, 122, 123, 124, 125, 126, 127, 128, 129, 130] (by decide +kernel) (by decide +kernel)
set_option maxRecDepth 20000 in
theorem gX3_close_X3_endFailure : GoodIn wsX3_close (wsV RX3 161 RX3 yX3_endFailure wsX3_endFailure) := goodIn_app (goodIn_of _ (by decide +kernel)) ggX3_close_X3_endFailure
theorem dX3_close_0 : decode cX3_close 0 = .ok (.aload_n 0, 1) := by decide +kernel
theorem dX3_close_1 : decode cX3_close 1 = .ok (.getfield 42, 3) := by decide +kernel
theorem dX3_close_4 : decode cX3_close 4 = .ok (.iconst (-1), 1) := by decide +kernel
theorem dX3_close_5 : decode cX3_close 5 = .ok (.if_icmp .ne 13, 3) := by decide +kernel
theorem dX3_close_8 : decode cX3_close 8 = .ok (.new 51, 3) := by decide +kernel
theorem dX3_close_11 : decode cX3_close 11 = .ok (.dup, 1) := by decide +kernel
theorem dX3_close_12 : decode cX3_close 12 = .ok (.ldc 145, 2) := by decide +kernel
theorem dX3_close_14 : decode cX3_close 14 = .ok (.invokespecial 55, 3) := by decide +kernel
theorem dX3_close_17 : decode cX3_close 17 = .ok (.athrow, 1) := by decide +kernel
theorem dX3_close_18 : decode cX3_close 18 = .ok (.aload_n 0, 1) := by decide +kernel
theorem dX3_close_19 : decode cX3_close 19 = .ok (.iconst 0, 1) := by decide +kernel
theorem dX3_close_20 : decode cX3_close 20 = .ok (.aload_n 0, 1) := by decide +kernel
theorem dX3_close_21 : decode cX3_close 21 = .ok (.invokevirtual 147, 3) := by decide +kernel
theorem dX3_close_24 : decode cX3_close 24 = .ok (.invokestatic 150, 3) := by decide +kernel
theorem dX3_close_27 : decode cX3_close 27 = .ok (.putfield 36, 3) := by decide +kernel
theorem dX3_close_30 : decode cX3_close 30 = .ok (.aload_n 0, 1) := by decide +kernel
theorem dX3_close_31 : decode cX3_close 31 = .ok (.invokevirtual 155, 3) := by decide +kernel
theorem dX3_close_34 : decode cX3_close 34 = .ok (.aload_n 0, 1) := by decide +kernel
theorem dX3_close_35 : decode cX3_close 35 = .ok (.aload_n 0, 1) := by decide +kernel
theorem dX3_close_36 : decode cX3_close 36 = .ok (.getfield 11, 3) := by decide +kernel
theorem dX3_close_39 : decode cX3_close 39 = .ok (.aload_n 0, 1) := by decide +kernel
theorem dX3_close_40 : decode cX3_close 40 = .ok (.getfield 42, 3) := by decide +kernel
theorem dX3_close_43 : decode cX3_close 43 = .ok (.aaload, 1) := by decide +kernel
theorem dX3_close_44 : decode cX3_close 44 = .ok (.invokevirtual 158, 3) := by decide +kernel
theorem dX3_close_47 : decode cX3_close 47 = .ok (.istore_n 1, 1) := by decide +kernel
theorem dX3_close_48 : decode cX3_close 48 = .ok (.aload_n 0, 1) := by decide +kernel
theorem dX3_close_49 : decode cX3_close 49 = .ok (.dup, 1) := by decide +kernel
theorem dX3_close_50 : decode cX3_close 50 = .ok (.getfield 39, 3) := by decide +kernel
theorem dX3_close_53 : decode cX3_close 53 = .ok (.iload_n 1, 1) := by decide +kernel
theorem dX3_close_54 : decode cX3_close 54 = .ok (.iadd, 1) := by decide +kernel
theorem dX3_close_55 : decode cX3_close 55 = .ok (.putfield 39, 3) := by decide +kernel
theorem dX3_close_58 : decode cX3_close 58 = .ok (.aload_n 0, 1) := by decide +kernel
theorem dX3_close_59 : decode cX3_close 59 = .ok (.aload_n 0, 1) := by decide +kernel
theorem dX3_close_60 : decode cX3_close 60 = .ok (.getfield 11, 3) := by decide +kernel
theorem dX3_close_63 : decode cX3_close 63 = .ok (.aload_n 0, 1) := by decide +kernel
theorem dX3_close_64 : decode cX3_close 64 = .ok (.getfield 42, 3) := by decide +kernel
theorem dX3_close_67 : decode cX3_close 67 = .ok (.aaload, 1) := by decide +kernel
theorem dX3_close_68 : decode cX3_close 68 = .ok (.invokevirtual 161, 3) := by decide +kernel
theorem dX3_close_71 : decode cX3_close 71 = .ok (.iload_n 1, 1) := by decide +kernel
theorem dX3_close_72 : decode cX3_close 72 = .ok (.ireturn, 1) := by decide +kernel
theorem dX3_members_0 : decode cX3_members 0 = .ok (.aload_n 0, 1) := by decide +kernel
theorem dX3_members_1 : decode cX3_members 1 = .ok (.getfield 29, 3) := by decide +kernel
theorem dX3_members_4 : decode cX3_members 4 = .ok (.ireturn, 1) := by decide +kernel
set_option maxRecDepth 20000 in
theorem ggX3_state_X3_existing : GoodIn wsX3_state wsX3_existing := goodIn_ca (goodIn_r _ [5, 6, 7, 8, 9, 23, 24, 25, 26, 27, 28, 29, 30] (by decide +kernel) (by decide +kernel)) (goodIn_sub (fun _ h => List.mem_cons_of_mem _ (List.mem_append_right _ h)) (by decide +kernel))
set_option maxRecDepth 20000 in
theorem gX3_state_X3_existing : GoodIn wsX3_state (wsV RX3 61 RX3 yX3_existing wsX3_existing) := goodIn_app (goodIn_of _ (by decide +kernel)) ggX3_state_X3_existing
theorem dX3_state_0 : decode cX3_state 0 = .ok (.aload_n 0, 1) := by decide +kernel
theorem dX3_state_1 : decode cX3_state 1 = .ok (.iload_n 1, 1) := by decide +kernel
theorem dX3_state_2 : decode cX3_state 2 = .ok (.invokevirtual 61, 3) := by decide +kernel
theorem dX3_state_5 : decode cX3_state 5 = .ok (.getfield 85, 3) := by decide +kernel
theorem dX3_state_8 : decode cX3_state 8 = .ok (.ireturn, 1) := by decide +kernel
set_option maxRecDepth 20000 in
theorem ggX3_margin_X3_existing : GoodIn wsX3_margin wsX3_existing := goodIn_ca (goodIn_r _ [5, 6, 7, 8, 9, 23, 24, 25, 26, 27, 28, 29, 30] (by decide +kernel) (by decide +kernel)) (goodIn_sub (fun _ h => List.mem_cons_of_mem _ (List.mem_append_right _ h)) (by decide +kernel))
set_option maxRecDepth 20000 in
theorem gX3_margin_X3_existing : GoodIn wsX3_margin (wsV RX3 61 RX3 yX3_existing wsX3_existing) := goodIn_app (goodIn_of _ (by decide +kernel)) ggX3_margin_X3_existing
theorem dX3_margin_0 : decode cX3_margin 0 = .ok (.aload_n 0, 1) := by decide +kernel
theorem dX3_margin_1 : decode cX3_margin 1 = .ok (.iload_n 1, 1) := by decide +kernel
theorem dX3_margin_2 : decode cX3_margin 2 = .ok (.invokevirtual 61, 3) := by decide +kernel
theorem dX3_margin_5 : decode cX3_margin 5 = .ok (.getfield 100, 3) := by decide +kernel
theorem dX3_margin_8 : decode cX3_margin 8 = .ok (.ireturn, 1) := by decide +kernel
set_option maxRecDepth 20000 in
theorem ggX3_share_X3_existing : GoodIn wsX3_share wsX3_existing := goodIn_ca (goodIn_r _ [5, 6, 7, 8, 9, 23, 24, 25, 26, 27, 28, 29, 30] (by decide +kernel) (by decide +kernel)) (goodIn_sub (fun _ h => List.mem_cons_of_mem _ (List.mem_append_right _ h)) (by decide +kernel))
set_option maxRecDepth 20000 in
theorem gX3_share_X3_existing : GoodIn wsX3_share (wsV RX3 61 RX3 yX3_existing wsX3_existing) := goodIn_app (goodIn_of _ (by decide +kernel)) ggX3_share_X3_existing
theorem dX3_share_0 : decode cX3_share 0 = .ok (.aload_n 0, 1) := by decide +kernel
theorem dX3_share_1 : decode cX3_share 1 = .ok (.iload_n 1, 1) := by decide +kernel
theorem dX3_share_2 : decode cX3_share 2 = .ok (.invokevirtual 61, 3) := by decide +kernel
theorem dX3_share_5 : decode cX3_share 5 = .ok (.getfield 116, 3) := by decide +kernel
theorem dX3_share_8 : decode cX3_share 8 = .ok (.ireturn, 1) := by decide +kernel
set_option maxRecDepth 20000 in
theorem ggX3_gain_X3_existing : GoodIn wsX3_gain wsX3_existing := goodIn_ca (goodIn_r _ [5, 6, 7, 8, 9, 23, 24, 25, 26, 27, 28, 29, 30] (by decide +kernel) (by decide +kernel)) (goodIn_sub (fun _ h => List.mem_cons_of_mem _ (List.mem_append_right _ h)) (by decide +kernel))
set_option maxRecDepth 20000 in
theorem gX3_gain_X3_existing : GoodIn wsX3_gain (wsV RX3 61 RX3 yX3_existing wsX3_existing) := goodIn_app (goodIn_of _ (by decide +kernel)) ggX3_gain_X3_existing
theorem dX3_gain_0 : decode cX3_gain 0 = .ok (.aload_n 0, 1) := by decide +kernel
theorem dX3_gain_1 : decode cX3_gain 1 = .ok (.iload_n 1, 1) := by decide +kernel
theorem dX3_gain_2 : decode cX3_gain 2 = .ok (.invokevirtual 61, 3) := by decide +kernel
theorem dX3_gain_5 : decode cX3_gain 5 = .ok (.getfield 79, 3) := by decide +kernel
theorem dX3_gain_8 : decode cX3_gain 8 = .ok (.ireturn, 1) := by decide +kernel
set_option maxRecDepth 20000 in
theorem ggX3_isJunior_X3_existing : GoodIn wsX3_isJunior wsX3_existing := goodIn_ca (goodIn_r _ [5, 6, 7, 8, 9, 23, 24, 25, 26, 27, 28, 29, 30] (by decide +kernel) (by decide +kernel)) (goodIn_sub (fun _ h => List.mem_cons_of_mem _ (List.mem_append_right _ h)) (by decide +kernel))
set_option maxRecDepth 20000 in
theorem gX3_isJunior_X3_existing : GoodIn wsX3_isJunior (wsV RX3 61 RX3 yX3_existing wsX3_existing) := goodIn_app (goodIn_of _ (by decide +kernel)) ggX3_isJunior_X3_existing
theorem dX3_isJunior_0 : decode cX3_isJunior 0 = .ok (.aload_n 0, 1) := by decide +kernel
theorem dX3_isJunior_1 : decode cX3_isJunior 1 = .ok (.iload_n 1, 1) := by decide +kernel
theorem dX3_isJunior_2 : decode cX3_isJunior 2 = .ok (.invokevirtual 61, 3) := by decide +kernel
theorem dX3_isJunior_5 : decode cX3_isJunior 5 = .ok (.getfield 164, 3) := by decide +kernel
theorem dX3_isJunior_8 : decode cX3_isJunior 8 = .ok (.ireturn, 1) := by decide +kernel
set_option maxRecDepth 20000 in
theorem ggX3_assessed_X3_existing : GoodIn wsX3_assessed wsX3_existing := goodIn_ca (goodIn_r _ [5, 6, 7, 8, 9, 23, 24, 25, 26, 27, 28, 29, 30] (by decide +kernel) (by decide +kernel)) (goodIn_sub (fun _ h => List.mem_cons_of_mem _ (List.mem_append_right _ h)) (by decide +kernel))
set_option maxRecDepth 20000 in
theorem gX3_assessed_X3_existing : GoodIn wsX3_assessed (wsV RX3 61 RX3 yX3_existing wsX3_existing) := goodIn_app (goodIn_of _ (by decide +kernel)) ggX3_assessed_X3_existing
theorem dX3_assessed_0 : decode cX3_assessed 0 = .ok (.aload_n 0, 1) := by decide +kernel
theorem dX3_assessed_1 : decode cX3_assessed 1 = .ok (.iload_n 1, 1) := by decide +kernel
theorem dX3_assessed_2 : decode cX3_assessed 2 = .ok (.invokevirtual 61, 3) := by decide +kernel
theorem dX3_assessed_5 : decode cX3_assessed 5 = .ok (.getfield 168, 3) := by decide +kernel
theorem dX3_assessed_8 : decode cX3_assessed 8 = .ok (.ireturn, 1) := by decide +kernel
set_option maxRecDepth 20000 in
theorem ggX3_clientLots_X3_existing : GoodIn wsX3_clientLots wsX3_existing := goodIn_ca (goodIn_r _ [5, 6, 7, 8, 9, 23, 24, 25, 26, 27, 28, 29, 30] (by decide +kernel) (by decide +kernel)) (goodIn_sub (fun _ h => List.mem_cons_of_mem _ (List.mem_append_right _ h)) (by decide +kernel))
set_option maxRecDepth 20000 in
theorem gX3_clientLots_X3_existing : GoodIn wsX3_clientLots (wsV RX3 61 RX3 yX3_existing wsX3_existing) := goodIn_app (goodIn_of _ (by decide +kernel)) ggX3_clientLots_X3_existing
theorem dX3_clientLots_0 : decode cX3_clientLots 0 = .ok (.aload_n 0, 1) := by decide +kernel
theorem dX3_clientLots_1 : decode cX3_clientLots 1 = .ok (.iload_n 1, 1) := by decide +kernel
theorem dX3_clientLots_2 : decode cX3_clientLots 2 = .ok (.invokevirtual 61, 3) := by decide +kernel
theorem dX3_clientLots_5 : decode cX3_clientLots 5 = .ok (.getfield 171, 3) := by decide +kernel
theorem dX3_clientLots_8 : decode cX3_clientLots 8 = .ok (.ireturn, 1) := by decide +kernel
set_option maxRecDepth 20000 in
theorem ggX3_won_X3_existing : GoodIn wsX3_won wsX3_existing := goodIn_ca (goodIn_r _ [5, 6, 7, 8, 9, 23, 24, 25, 26, 27, 28, 29, 30] (by decide +kernel) (by decide +kernel)) (goodIn_sub (fun _ h => List.mem_cons_of_mem _ (List.mem_append_right _ h)) (by decide +kernel))
set_option maxRecDepth 20000 in
theorem gX3_won_X3_existing : GoodIn wsX3_won (wsV RX3 61 RX3 yX3_existing wsX3_existing) := goodIn_app (goodIn_of _ (by decide +kernel)) ggX3_won_X3_existing
theorem dX3_won_0 : decode cX3_won 0 = .ok (.aload_n 0, 1) := by decide +kernel
theorem dX3_won_1 : decode cX3_won 1 = .ok (.iload_n 1, 1) := by decide +kernel
theorem dX3_won_2 : decode cX3_won 2 = .ok (.invokevirtual 61, 3) := by decide +kernel
theorem dX3_won_5 : decode cX3_won 5 = .ok (.getfield 174, 3) := by decide +kernel
theorem dX3_won_8 : decode cX3_won 8 = .ok (.ireturn, 1) := by decide +kernel
theorem dX3_capital_0 : decode cX3_capital 0 = .ok (.aload_n 0, 1) := by decide +kernel
theorem dX3_capital_1 : decode cX3_capital 1 = .ok (.getfield 33, 3) := by decide +kernel
theorem dX3_capital_4 : decode cX3_capital 4 = .ok (.ireturn, 1) := by decide +kernel
theorem dX3_loss_0 : decode cX3_loss 0 = .ok (.aload_n 0, 1) := by decide +kernel
theorem dX3_loss_1 : decode cX3_loss 1 = .ok (.getfield 36, 3) := by decide +kernel
theorem dX3_loss_4 : decode cX3_loss 4 = .ok (.ireturn, 1) := by decide +kernel
theorem dX3_uncovered_0 : decode cX3_uncovered 0 = .ok (.aload_n 0, 1) := by decide +kernel
theorem dX3_uncovered_1 : decode cX3_uncovered 1 = .ok (.getfield 39, 3) := by decide +kernel
theorem dX3_uncovered_4 : decode cX3_uncovered 4 = .ok (.ireturn, 1) := by decide +kernel
theorem dX3_failing_0 : decode cX3_failing 0 = .ok (.aload_n 0, 1) := by decide +kernel
theorem dX3_failing_1 : decode cX3_failing 1 = .ok (.getfield 42, 3) := by decide +kernel
theorem dX3_failing_4 : decode cX3_failing 4 = .ok (.ireturn, 1) := by decide +kernel
theorem dX3_existing_0 : decode cX3_existing 0 = .ok (.iload_n 1, 1) := by decide +kernel
theorem dX3_existing_1 : decode cX3_existing 1 = .ok (.ifCond .lt 11, 3) := by decide +kernel
theorem dX3_existing_4 : decode cX3_existing 4 = .ok (.iload_n 1, 1) := by decide +kernel
theorem dX3_existing_5 : decode cX3_existing 5 = .ok (.aload_n 0, 1) := by decide +kernel
theorem dX3_existing_6 : decode cX3_existing 6 = .ok (.getfield 29, 3) := by decide +kernel
theorem dX3_existing_9 : decode cX3_existing 9 = .ok (.if_icmp .lt 13, 3) := by decide +kernel
theorem dX3_existing_12 : decode cX3_existing 12 = .ok (.new 133, 3) := by decide +kernel
theorem dX3_existing_15 : decode cX3_existing 15 = .ok (.dup, 1) := by decide +kernel
theorem dX3_existing_16 : decode cX3_existing 16 = .ok (.ldc 177, 2) := by decide +kernel
theorem dX3_existing_18 : decode cX3_existing 18 = .ok (.invokespecial 137, 3) := by decide +kernel
theorem dX3_existing_21 : decode cX3_existing 21 = .ok (.athrow, 1) := by decide +kernel
theorem dX3_existing_22 : decode cX3_existing 22 = .ok (.aload_n 0, 1) := by decide +kernel
theorem dX3_existing_23 : decode cX3_existing 23 = .ok (.getfield 11, 3) := by decide +kernel
theorem dX3_existing_26 : decode cX3_existing 26 = .ok (.iload_n 1, 1) := by decide +kernel
theorem dX3_existing_27 : decode cX3_existing 27 = .ok (.aaload, 1) := by decide +kernel
theorem dX3_existing_28 : decode cX3_existing 28 = .ok (.areturn, 1) := by decide +kernel
theorem dX3_requireBetween_0 : decode cX3_requireBetween 0 = .ok (.iload_n 0, 1) := by decide +kernel
theorem dX3_requireBetween_1 : decode cX3_requireBetween 1 = .ok (.iload_n 1, 1) := by decide +kernel
theorem dX3_requireBetween_2 : decode cX3_requireBetween 2 = .ok (.if_icmp .lt 8, 3) := by decide +kernel
theorem dX3_requireBetween_5 : decode cX3_requireBetween 5 = .ok (.iload_n 0, 1) := by decide +kernel
theorem dX3_requireBetween_6 : decode cX3_requireBetween 6 = .ok (.iload_n 2, 1) := by decide +kernel
theorem dX3_requireBetween_7 : decode cX3_requireBetween 7 = .ok (.if_icmp .le 13, 3) := by decide +kernel
theorem dX3_requireBetween_10 : decode cX3_requireBetween 10 = .ok (.new 179, 3) := by decide +kernel
theorem dX3_requireBetween_13 : decode cX3_requireBetween 13 = .ok (.dup, 1) := by decide +kernel
theorem dX3_requireBetween_14 : decode cX3_requireBetween 14 = .ok (.ldc 181, 2) := by decide +kernel
theorem dX3_requireBetween_16 : decode cX3_requireBetween 16 = .ok (.invokespecial 183, 3) := by decide +kernel
theorem dX3_requireBetween_19 : decode cX3_requireBetween 19 = .ok (.athrow, 1) := by decide +kernel
theorem dX3_requireBetween_20 : decode cX3_requireBetween 20 = .ok (.return_, 1) := by decide +kernel
set_option maxRecDepth 20000 in
theorem ggX3_requireActive_X1_isActive : GoodIn wsX3_requireActive wsX1_isActive := goodIn_r _ [6, 7, 8, 9, 10, 11, 12, 13, 14, 15, 16, 17, 18, 19, 20] (by decide +kernel) (by decide +kernel)
set_option maxRecDepth 20000 in
theorem gX3_requireActive_X1_isActive_n96 : GoodIn wsX3_requireActive (wsX1_isActive) := ggX3_requireActive_X1_isActive
theorem dX3_requireActive_0 : decode cX3_requireActive 0 = .ok (.aload_n 0, 1) := by decide +kernel
theorem dX3_requireActive_1 : decode cX3_requireActive 1 = .ok (.invokevirtual 96, 3) := by decide +kernel
theorem dX3_requireActive_4 : decode cX3_requireActive 4 = .ok (.ifCond .ne 13, 3) := by decide +kernel
theorem dX3_requireActive_7 : decode cX3_requireActive 7 = .ok (.new 51, 3) := by decide +kernel
theorem dX3_requireActive_10 : decode cX3_requireActive 10 = .ok (.dup, 1) := by decide +kernel
theorem dX3_requireActive_11 : decode cX3_requireActive 11 = .ok (.ldc 184, 2) := by decide +kernel
theorem dX3_requireActive_13 : decode cX3_requireActive 13 = .ok (.invokespecial 55, 3) := by decide +kernel
theorem dX3_requireActive_16 : decode cX3_requireActive 16 = .ok (.athrow, 1) := by decide +kernel
theorem dX3_requireActive_17 : decode cX3_requireActive 17 = .ok (.return_, 1) := by decide +kernel
theorem dX3_requireNoFailure_0 : decode cX3_requireNoFailure 0 = .ok (.aload_n 0, 1) := by decide +kernel
theorem dX3_requireNoFailure_1 : decode cX3_requireNoFailure 1 = .ok (.getfield 42, 3) := by decide +kernel
theorem dX3_requireNoFailure_4 : decode cX3_requireNoFailure 4 = .ok (.iconst (-1), 1) := by decide +kernel
theorem dX3_requireNoFailure_5 : decode cX3_requireNoFailure 5 = .ok (.if_icmp .eq 13, 3) := by decide +kernel
theorem dX3_requireNoFailure_8 : decode cX3_requireNoFailure 8 = .ok (.new 51, 3) := by decide +kernel
theorem dX3_requireNoFailure_11 : decode cX3_requireNoFailure 11 = .ok (.dup, 1) := by decide +kernel
theorem dX3_requireNoFailure_12 : decode cX3_requireNoFailure 12 = .ok (.ldc 186, 2) := by decide +kernel
theorem dX3_requireNoFailure_14 : decode cX3_requireNoFailure 14 = .ok (.invokespecial 55, 3) := by decide +kernel
theorem dX3_requireNoFailure_17 : decode cX3_requireNoFailure 17 = .ok (.athrow, 1) := by decide +kernel
theorem dX3_requireNoFailure_18 : decode cX3_requireNoFailure 18 = .ok (.return_, 1) := by decide +kernel
set_option maxRecDepth 20000 in
theorem ggX3_neededFund_X1_isActive : GoodIn wsX3_neededFund wsX1_isActive := goodIn_r _ [13, 14, 23, 24, 25, 26, 27, 28, 29, 30, 31, 32, 33, 34, 35] (by decide +kernel) (by decide +kernel)
set_option maxRecDepth 20000 in
theorem gX3_neededFund_X1_isActive_n96 : GoodIn wsX3_neededFund (wsX1_isActive) := ggX3_neededFund_X1_isActive
theorem dX3_neededFund_0 : decode cX3_neededFund 0 = .ok (.iconst 0, 1) := by decide +kernel
theorem dX3_neededFund_1 : decode cX3_neededFund 1 = .ok (.istore_n 1, 1) := by decide +kernel
theorem dX3_neededFund_2 : decode cX3_neededFund 2 = .ok (.iconst 0, 1) := by decide +kernel
theorem dX3_neededFund_3 : decode cX3_neededFund 3 = .ok (.istore_n 2, 1) := by decide +kernel
theorem dX3_neededFund_4 : decode cX3_neededFund 4 = .ok (.iconst 0, 1) := by decide +kernel
theorem dX3_neededFund_5 : decode cX3_neededFund 5 = .ok (.istore_n 3, 1) := by decide +kernel
theorem dX3_neededFund_6 : decode cX3_neededFund 6 = .ok (.iload_n 3, 1) := by decide +kernel
theorem dX3_neededFund_7 : decode cX3_neededFund 7 = .ok (.aload_n 0, 1) := by decide +kernel
theorem dX3_neededFund_8 : decode cX3_neededFund 8 = .ok (.getfield 29, 3) := by decide +kernel
theorem dX3_neededFund_11 : decode cX3_neededFund 11 = .ok (.if_icmp .ge 54, 3) := by decide +kernel
theorem dX3_neededFund_14 : decode cX3_neededFund 14 = .ok (.aload_n 0, 1) := by decide +kernel
theorem dX3_neededFund_15 : decode cX3_neededFund 15 = .ok (.getfield 11, 3) := by decide +kernel
theorem dX3_neededFund_18 : decode cX3_neededFund 18 = .ok (.iload_n 3, 1) := by decide +kernel
theorem dX3_neededFund_19 : decode cX3_neededFund 19 = .ok (.aaload, 1) := by decide +kernel
theorem dX3_neededFund_20 : decode cX3_neededFund 20 = .ok (.invokevirtual 96, 3) := by decide +kernel
theorem dX3_neededFund_23 : decode cX3_neededFund 23 = .ok (.ifCond .eq 15, 3) := by decide +kernel
theorem dX3_neededFund_26 : decode cX3_neededFund 26 = .ok (.aload_n 0, 1) := by decide +kernel
theorem dX3_neededFund_27 : decode cX3_neededFund 27 = .ok (.getfield 11, 3) := by decide +kernel
theorem dX3_neededFund_30 : decode cX3_neededFund 30 = .ok (.iload_n 3, 1) := by decide +kernel
theorem dX3_neededFund_31 : decode cX3_neededFund 31 = .ok (.aaload, 1) := by decide +kernel
theorem dX3_neededFund_32 : decode cX3_neededFund 32 = .ok (.getfield 82, 3) := by decide +kernel
theorem dX3_neededFund_35 : decode cX3_neededFund 35 = .ok (.goto 4, 3) := by decide +kernel
theorem dX3_neededFund_38 : decode cX3_neededFund 38 = .ok (.iconst 0, 1) := by decide +kernel
theorem dX3_neededFund_39 : decode cX3_neededFund 39 = .ok (.istore 4, 2) := by decide +kernel
theorem dX3_neededFund_41 : decode cX3_neededFund 41 = .ok (.iload_n 2, 1) := by decide +kernel
theorem dX3_neededFund_42 : decode cX3_neededFund 42 = .ok (.iload 4, 2) := by decide +kernel
theorem dX3_neededFund_44 : decode cX3_neededFund 44 = .ok (.iload_n 1, 1) := by decide +kernel
theorem dX3_neededFund_45 : decode cX3_neededFund 45 = .ok (.invokestatic 188, 3) := by decide +kernel
theorem dX3_neededFund_48 : decode cX3_neededFund 48 = .ok (.invokestatic 150, 3) := by decide +kernel
theorem dX3_neededFund_51 : decode cX3_neededFund 51 = .ok (.istore_n 2, 1) := by decide +kernel
theorem dX3_neededFund_52 : decode cX3_neededFund 52 = .ok (.iload_n 1, 1) := by decide +kernel
theorem dX3_neededFund_53 : decode cX3_neededFund 53 = .ok (.iload 4, 2) := by decide +kernel
theorem dX3_neededFund_55 : decode cX3_neededFund 55 = .ok (.invokestatic 150, 3) := by decide +kernel
theorem dX3_neededFund_58 : decode cX3_neededFund 58 = .ok (.istore_n 1, 1) := by decide +kernel
theorem dX3_neededFund_59 : decode cX3_neededFund 59 = .ok (.iinc 3 1, 3) := by decide +kernel
theorem dX3_neededFund_62 : decode cX3_neededFund 62 = .ok (.goto (-56), 3) := by decide +kernel
theorem dX3_neededFund_65 : decode cX3_neededFund 65 = .ok (.iload_n 1, 1) := by decide +kernel
theorem dX3_neededFund_66 : decode cX3_neededFund 66 = .ok (.iload_n 2, 1) := by decide +kernel
theorem dX3_neededFund_67 : decode cX3_neededFund 67 = .ok (.iadd, 1) := by decide +kernel
theorem dX3_neededFund_68 : decode cX3_neededFund 68 = .ok (.ireturn, 1) := by decide +kernel
set_option maxRecDepth 20000 in
theorem ggX3_moveClients_X3_findsHost : GoodIn wsX3_moveClients wsX3_findsHost := goodIn_r _ [5, 6, 7, 8, 9, 10, 11, 12, 13, 14, 15, 16, 17, 18, 19, 20, 21, 22, 23, 40, 41, 42, 43, 44, 45, 46, 47, 27, 28, 29, 30, 31, 32, 33, 34, 35, 36, 37, 38, 39] (by decide +kernel) (by decide +kernel)
set_option maxRecDepth 20000 in
theorem gX3_moveClients_X3_findsHost : GoodIn wsX3_moveClients (wsV RX3 198 RX3 yX3_findsHost wsX3_findsHost) := goodIn_app (goodIn_of _ (by decide +kernel)) ggX3_moveClients_X3_findsHost
set_option maxRecDepth 20000 in
theorem ggX3_moveClients_X1_dropClients : GoodIn wsX3_moveClients wsX1_dropClients := goodIn_r _ [26, 16, 18, 27, 28, 29, 30, 31, 32, 33, 34, 35, 36, 37, 38, 39] (by decide +kernel) (by decide +kernel)
set_option maxRecDepth 20000 in
theorem gX3_moveClients_X1_dropClients_n201 : GoodIn wsX3_moveClients (wsX1_dropClients) := ggX3_moveClients_X1_dropClients
theorem dX3_moveClients_0 : decode cX3_moveClients 0 = .ok (.iconst 0, 1) := by decide +kernel
theorem dX3_moveClients_1 : decode cX3_moveClients 1 = .ok (.istore_n 2, 1) := by decide +kernel
theorem dX3_moveClients_2 : decode cX3_moveClients 2 = .ok (.iconst 0, 1) := by decide +kernel
theorem dX3_moveClients_3 : decode cX3_moveClients 3 = .ok (.istore_n 3, 1) := by decide +kernel
theorem dX3_moveClients_4 : decode cX3_moveClients 4 = .ok (.iload_n 3, 1) := by decide +kernel
theorem dX3_moveClients_5 : decode cX3_moveClients 5 = .ok (.aload_n 1, 1) := by decide +kernel
theorem dX3_moveClients_6 : decode cX3_moveClients 6 = .ok (.getfield 191, 3) := by decide +kernel
theorem dX3_moveClients_9 : decode cX3_moveClients 9 = .ok (.if_icmp .ge 31, 3) := by decide +kernel
theorem dX3_moveClients_12 : decode cX3_moveClients 12 = .ok (.aload_n 1, 1) := by decide +kernel
theorem dX3_moveClients_13 : decode cX3_moveClients 13 = .ok (.getfield 194, 3) := by decide +kernel
theorem dX3_moveClients_16 : decode cX3_moveClients 16 = .ok (.iload_n 3, 1) := by decide +kernel
theorem dX3_moveClients_17 : decode cX3_moveClients 17 = .ok (.iaload, 1) := by decide +kernel
theorem dX3_moveClients_18 : decode cX3_moveClients 18 = .ok (.istore 4, 2) := by decide +kernel
theorem dX3_moveClients_20 : decode cX3_moveClients 20 = .ok (.aload_n 0, 1) := by decide +kernel
theorem dX3_moveClients_21 : decode cX3_moveClients 21 = .ok (.iload 4, 2) := by decide +kernel
theorem dX3_moveClients_23 : decode cX3_moveClients 23 = .ok (.invokevirtual 198, 3) := by decide +kernel
theorem dX3_moveClients_26 : decode cX3_moveClients 26 = .ok (.ifCond .ne 8, 3) := by decide +kernel
theorem dX3_moveClients_29 : decode cX3_moveClients 29 = .ok (.iload_n 2, 1) := by decide +kernel
theorem dX3_moveClients_30 : decode cX3_moveClients 30 = .ok (.iload 4, 2) := by decide +kernel
theorem dX3_moveClients_32 : decode cX3_moveClients 32 = .ok (.iadd, 1) := by decide +kernel
theorem dX3_moveClients_33 : decode cX3_moveClients 33 = .ok (.istore_n 2, 1) := by decide +kernel
theorem dX3_moveClients_34 : decode cX3_moveClients 34 = .ok (.iinc 3 1, 3) := by decide +kernel
theorem dX3_moveClients_37 : decode cX3_moveClients 37 = .ok (.goto (-33), 3) := by decide +kernel
theorem dX3_moveClients_40 : decode cX3_moveClients 40 = .ok (.aload_n 1, 1) := by decide +kernel
theorem dX3_moveClients_41 : decode cX3_moveClients 41 = .ok (.invokevirtual 201, 3) := by decide +kernel
theorem dX3_moveClients_44 : decode cX3_moveClients 44 = .ok (.iload_n 2, 1) := by decide +kernel
theorem dX3_moveClients_45 : decode cX3_moveClients 45 = .ok (.ireturn, 1) := by decide +kernel
set_option maxRecDepth 20000 in
theorem ggX3_findsHost_X1_isActive : GoodIn wsX3_findsHost wsX1_isActive := goodIn_r _ [6, 7, 27, 28, 29, 30, 31, 32, 33, 34, 35, 36, 37, 38, 39] (by decide +kernel) (by decide +kernel)
set_option maxRecDepth 20000 in
theorem gX3_findsHost_X1_isActive_n96 : GoodIn wsX3_findsHost (wsX1_isActive) := ggX3_findsHost_X1_isActive
set_option maxRecDepth 20000 in
theorem ggX3_findsHost_X1_takesClient : GoodIn wsX3_findsHost wsX1_takesClient := goodIn_r _ [10, 11, 12, 13, 14, 15, 16, 4, 17, 18, 27, 28, 29, 30, 31, 32, 33, 34, 35, 36, 37, 38, 39] (by decide +kernel) (by decide +kernel)
set_option maxRecDepth 20000 in
theorem gX3_findsHost_X1_takesClient_n69 : GoodIn wsX3_findsHost (wsX1_takesClient) := ggX3_findsHost_X1_takesClient
theorem dX3_findsHost_0 : decode cX3_findsHost 0 = .ok (.iconst 0, 1) := by decide +kernel
theorem dX3_findsHost_1 : decode cX3_findsHost 1 = .ok (.istore_n 2, 1) := by decide +kernel
theorem dX3_findsHost_2 : decode cX3_findsHost 2 = .ok (.iload_n 2, 1) := by decide +kernel
theorem dX3_findsHost_3 : decode cX3_findsHost 3 = .ok (.aload_n 0, 1) := by decide +kernel
theorem dX3_findsHost_4 : decode cX3_findsHost 4 = .ok (.getfield 29, 3) := by decide +kernel
theorem dX3_findsHost_7 : decode cX3_findsHost 7 = .ok (.if_icmp .ge 36, 3) := by decide +kernel
theorem dX3_findsHost_10 : decode cX3_findsHost 10 = .ok (.aload_n 0, 1) := by decide +kernel
theorem dX3_findsHost_11 : decode cX3_findsHost 11 = .ok (.getfield 11, 3) := by decide +kernel
theorem dX3_findsHost_14 : decode cX3_findsHost 14 = .ok (.iload_n 2, 1) := by decide +kernel
theorem dX3_findsHost_15 : decode cX3_findsHost 15 = .ok (.aaload, 1) := by decide +kernel
theorem dX3_findsHost_16 : decode cX3_findsHost 16 = .ok (.invokevirtual 96, 3) := by decide +kernel
theorem dX3_findsHost_19 : decode cX3_findsHost 19 = .ok (.ifCond .eq 18, 3) := by decide +kernel
theorem dX3_findsHost_22 : decode cX3_findsHost 22 = .ok (.aload_n 0, 1) := by decide +kernel
theorem dX3_findsHost_23 : decode cX3_findsHost 23 = .ok (.getfield 11, 3) := by decide +kernel
theorem dX3_findsHost_26 : decode cX3_findsHost 26 = .ok (.iload_n 2, 1) := by decide +kernel
theorem dX3_findsHost_27 : decode cX3_findsHost 27 = .ok (.aaload, 1) := by decide +kernel
theorem dX3_findsHost_28 : decode cX3_findsHost 28 = .ok (.iload_n 1, 1) := by decide +kernel
theorem dX3_findsHost_29 : decode cX3_findsHost 29 = .ok (.invokevirtual 69, 3) := by decide +kernel
theorem dX3_findsHost_32 : decode cX3_findsHost 32 = .ok (.ifCond .eq 5, 3) := by decide +kernel
theorem dX3_findsHost_35 : decode cX3_findsHost 35 = .ok (.iconst 1, 1) := by decide +kernel
theorem dX3_findsHost_36 : decode cX3_findsHost 36 = .ok (.ireturn, 1) := by decide +kernel
theorem dX3_findsHost_37 : decode cX3_findsHost 37 = .ok (.iinc 2 1, 3) := by decide +kernel
theorem dX3_findsHost_40 : decode cX3_findsHost 40 = .ok (.goto (-38), 3) := by decide +kernel
theorem dX3_findsHost_43 : decode cX3_findsHost 43 = .ok (.iconst 0, 1) := by decide +kernel
theorem dX3_findsHost_44 : decode cX3_findsHost 44 = .ok (.ireturn, 1) := by decide +kernel
set_option maxRecDepth 20000 in
theorem ggX3_awardLots_X0_winnerOf : GoodIn wsX3_awardLots wsX0_winnerOf := goodIn_r _ [6, 7, 19, 20] (by decide +kernel) (by decide +kernel)
set_option maxRecDepth 20000 in
theorem gX3_awardLots_X0_winnerOf_n207 : GoodIn wsX3_awardLots (wsX0_winnerOf) := ggX3_awardLots_X0_winnerOf
set_option maxRecDepth 20000 in
theorem ggX3_awardLots_X0_bidOf : GoodIn wsX3_awardLots wsX0_bidOf := goodIn_r _ [10, 7, 19, 20] (by decide +kernel) (by decide +kernel)
set_option maxRecDepth 20000 in
theorem gX3_awardLots_X0_bidOf_n138 : GoodIn wsX3_awardLots (wsX0_bidOf) := ggX3_awardLots_X0_bidOf
theorem dX3_awardLots_0 : decode cX3_awardLots 0 = .ok (.iconst 0, 1) := by decide +kernel
theorem dX3_awardLots_1 : decode cX3_awardLots 1 = .ok (.istore_n 1, 1) := by decide +kernel
theorem dX3_awardLots_2 : decode cX3_awardLots 2 = .ok (.iconst 0, 1) := by decide +kernel
theorem dX3_awardLots_3 : decode cX3_awardLots 3 = .ok (.istore_n 2, 1) := by decide +kernel
theorem dX3_awardLots_4 : decode cX3_awardLots 4 = .ok (.iload_n 2, 1) := by decide +kernel
theorem dX3_awardLots_5 : decode cX3_awardLots 5 = .ok (.aload_n 0, 1) := by decide +kernel
theorem dX3_awardLots_6 : decode cX3_awardLots 6 = .ok (.getfield 18, 3) := by decide +kernel
theorem dX3_awardLots_9 : decode cX3_awardLots 9 = .ok (.getfield 204, 3) := by decide +kernel
theorem dX3_awardLots_12 : decode cX3_awardLots 12 = .ok (.if_icmp .ge 59, 3) := by decide +kernel
theorem dX3_awardLots_15 : decode cX3_awardLots 15 = .ok (.aload_n 0, 1) := by decide +kernel
theorem dX3_awardLots_16 : decode cX3_awardLots 16 = .ok (.getfield 18, 3) := by decide +kernel
theorem dX3_awardLots_19 : decode cX3_awardLots 19 = .ok (.iload_n 2, 1) := by decide +kernel
theorem dX3_awardLots_20 : decode cX3_awardLots 20 = .ok (.invokevirtual 207, 3) := by decide +kernel
theorem dX3_awardLots_23 : decode cX3_awardLots 23 = .ok (.istore_n 3, 1) := by decide +kernel
theorem dX3_awardLots_24 : decode cX3_awardLots 24 = .ok (.iload_n 3, 1) := by decide +kernel
theorem dX3_awardLots_25 : decode cX3_awardLots 25 = .ok (.iconst (-1), 1) := by decide +kernel
theorem dX3_awardLots_26 : decode cX3_awardLots 26 = .ok (.if_icmp .ne 12, 3) := by decide +kernel
theorem dX3_awardLots_29 : decode cX3_awardLots 29 = .ok (.iinc 1 1000, 6) := by decide +kernel
theorem dX3_awardLots_35 : decode cX3_awardLots 35 = .ok (.goto 30, 3) := by decide +kernel
theorem dX3_awardLots_38 : decode cX3_awardLots 38 = .ok (.iload_n 1, 1) := by decide +kernel
theorem dX3_awardLots_39 : decode cX3_awardLots 39 = .ok (.aload_n 0, 1) := by decide +kernel
theorem dX3_awardLots_40 : decode cX3_awardLots 40 = .ok (.getfield 18, 3) := by decide +kernel
theorem dX3_awardLots_43 : decode cX3_awardLots 43 = .ok (.iload_n 3, 1) := by decide +kernel
theorem dX3_awardLots_44 : decode cX3_awardLots 44 = .ok (.iload_n 2, 1) := by decide +kernel
theorem dX3_awardLots_45 : decode cX3_awardLots 45 = .ok (.invokevirtual 138, 3) := by decide +kernel
theorem dX3_awardLots_48 : decode cX3_awardLots 48 = .ok (.isub, 1) := by decide +kernel
theorem dX3_awardLots_49 : decode cX3_awardLots 49 = .ok (.istore_n 1, 1) := by decide +kernel
theorem dX3_awardLots_50 : decode cX3_awardLots 50 = .ok (.aload_n 0, 1) := by decide +kernel
theorem dX3_awardLots_51 : decode cX3_awardLots 51 = .ok (.getfield 11, 3) := by decide +kernel
theorem dX3_awardLots_54 : decode cX3_awardLots 54 = .ok (.iload_n 3, 1) := by decide +kernel
theorem dX3_awardLots_55 : decode cX3_awardLots 55 = .ok (.aaload, 1) := by decide +kernel
theorem dX3_awardLots_56 : decode cX3_awardLots 56 = .ok (.dup, 1) := by decide +kernel
theorem dX3_awardLots_57 : decode cX3_awardLots 57 = .ok (.getfield 174, 3) := by decide +kernel
theorem dX3_awardLots_60 : decode cX3_awardLots 60 = .ok (.iconst 1, 1) := by decide +kernel
theorem dX3_awardLots_61 : decode cX3_awardLots 61 = .ok (.iadd, 1) := by decide +kernel
theorem dX3_awardLots_62 : decode cX3_awardLots 62 = .ok (.putfield 174, 3) := by decide +kernel
theorem dX3_awardLots_65 : decode cX3_awardLots 65 = .ok (.iinc 2 1, 3) := by decide +kernel
theorem dX3_awardLots_68 : decode cX3_awardLots 68 = .ok (.goto (-64), 3) := by decide +kernel
theorem dX3_awardLots_71 : decode cX3_awardLots 71 = .ok (.iload_n 1, 1) := by decide +kernel
theorem dX3_awardLots_72 : decode cX3_awardLots 72 = .ok (.ireturn, 1) := by decide +kernel
set_option maxRecDepth 20000 in
theorem ggX3_rankBidders_X1_isActive : GoodIn wsX3_rankBidders wsX1_isActive := goodIn_r _ [7, 8, 31, 32, 33, 34, 35, 36, 37, 38, 39, 40, 41, 42, 43] (by decide +kernel) (by decide +kernel)
set_option maxRecDepth 20000 in
theorem gX3_rankBidders_X1_isActive_n96 : GoodIn wsX3_rankBidders (wsX1_isActive) := ggX3_rankBidders_X1_isActive
set_option maxRecDepth 20000 in
theorem ggX3_rankBidders_X0_bidPoorly : GoodIn wsX3_rankBidders wsX0_bidPoorly := goodIn_r _ [12, 13, 14, 15, 16, 17, 10, 18, 19, 20, 21, 22, 44, 45] (by decide +kernel) (by decide +kernel)
set_option maxRecDepth 20000 in
theorem gX3_rankBidders_X0_bidPoorly_n210 : GoodIn wsX3_rankBidders (wsX0_bidPoorly) := ggX3_rankBidders_X0_bidPoorly
theorem dX3_rankBidders_0 : decode cX3_rankBidders 0 = .ok (.iconst 0, 1) := by decide +kernel
theorem dX3_rankBidders_1 : decode cX3_rankBidders 1 = .ok (.istore_n 1, 1) := by decide +kernel
theorem dX3_rankBidders_2 : decode cX3_rankBidders 2 = .ok (.iload_n 1, 1) := by decide +kernel
theorem dX3_rankBidders_3 : decode cX3_rankBidders 3 = .ok (.aload_n 0, 1) := by decide +kernel
theorem dX3_rankBidders_4 : decode cX3_rankBidders 4 = .ok (.getfield 29, 3) := by decide +kernel
theorem dX3_rankBidders_7 : decode cX3_rankBidders 7 = .ok (.if_icmp .ge 38, 3) := by decide +kernel
theorem dX3_rankBidders_10 : decode cX3_rankBidders 10 = .ok (.aload_n 0, 1) := by decide +kernel
theorem dX3_rankBidders_11 : decode cX3_rankBidders 11 = .ok (.getfield 11, 3) := by decide +kernel
theorem dX3_rankBidders_14 : decode cX3_rankBidders 14 = .ok (.iload_n 1, 1) := by decide +kernel
theorem dX3_rankBidders_15 : decode cX3_rankBidders 15 = .ok (.aaload, 1) := by decide +kernel
theorem dX3_rankBidders_16 : decode cX3_rankBidders 16 = .ok (.invokevirtual 96, 3) := by decide +kernel
theorem dX3_rankBidders_19 : decode cX3_rankBidders 19 = .ok (.ifCond .eq 20, 3) := by decide +kernel
theorem dX3_rankBidders_22 : decode cX3_rankBidders 22 = .ok (.aload_n 0, 1) := by decide +kernel
theorem dX3_rankBidders_23 : decode cX3_rankBidders 23 = .ok (.getfield 11, 3) := by decide +kernel
theorem dX3_rankBidders_26 : decode cX3_rankBidders 26 = .ok (.iload_n 1, 1) := by decide +kernel
theorem dX3_rankBidders_27 : decode cX3_rankBidders 27 = .ok (.aaload, 1) := by decide +kernel
theorem dX3_rankBidders_28 : decode cX3_rankBidders 28 = .ok (.aload_n 0, 1) := by decide +kernel
theorem dX3_rankBidders_29 : decode cX3_rankBidders 29 = .ok (.getfield 18, 3) := by decide +kernel
theorem dX3_rankBidders_32 : decode cX3_rankBidders 32 = .ok (.iload_n 1, 1) := by decide +kernel
theorem dX3_rankBidders_33 : decode cX3_rankBidders 33 = .ok (.invokevirtual 210, 3) := by decide +kernel
theorem dX3_rankBidders_36 : decode cX3_rankBidders 36 = .ok (.putfield 164, 3) := by decide +kernel
theorem dX3_rankBidders_39 : decode cX3_rankBidders 39 = .ok (.iinc 1 1, 3) := by decide +kernel
theorem dX3_rankBidders_42 : decode cX3_rankBidders 42 = .ok (.goto (-40), 3) := by decide +kernel
theorem dX3_rankBidders_45 : decode cX3_rankBidders 45 = .ok (.return_, 1) := by decide +kernel
set_option maxRecDepth 20000 in
theorem ggX3_endFailure_X1_loseAll : GoodIn wsX3_endFailure wsX1_loseAll := goodIn_r _ [7, 8, 9, 10, 11, 12, 13, 5, 14, 15, 16, 25, 26, 27, 28, 29, 30, 31, 32, 33, 34, 35, 36, 37] (by decide +kernel) (by decide +kernel)
set_option maxRecDepth 20000 in
theorem gX3_endFailure_X1_loseAll_n213 : GoodIn wsX3_endFailure (wsX1_loseAll) := ggX3_endFailure_X1_loseAll
theorem dX3_endFailure_0 : decode cX3_endFailure 0 = .ok (.aload_n 1, 1) := by decide +kernel
theorem dX3_endFailure_1 : decode cX3_endFailure 1 = .ok (.invokevirtual 213, 3) := by decide +kernel
theorem dX3_endFailure_4 : decode cX3_endFailure 4 = .ok (.iconst 0, 1) := by decide +kernel
theorem dX3_endFailure_5 : decode cX3_endFailure 5 = .ok (.istore_n 2, 1) := by decide +kernel
theorem dX3_endFailure_6 : decode cX3_endFailure 6 = .ok (.iload_n 2, 1) := by decide +kernel
theorem dX3_endFailure_7 : decode cX3_endFailure 7 = .ok (.aload_n 0, 1) := by decide +kernel
theorem dX3_endFailure_8 : decode cX3_endFailure 8 = .ok (.getfield 29, 3) := by decide +kernel
theorem dX3_endFailure_11 : decode cX3_endFailure 11 = .ok (.if_icmp .ge 41, 3) := by decide +kernel
theorem dX3_endFailure_14 : decode cX3_endFailure 14 = .ok (.aload_n 0, 1) := by decide +kernel
theorem dX3_endFailure_15 : decode cX3_endFailure 15 = .ok (.getfield 11, 3) := by decide +kernel
theorem dX3_endFailure_18 : decode cX3_endFailure 18 = .ok (.iload_n 2, 1) := by decide +kernel
theorem dX3_endFailure_19 : decode cX3_endFailure 19 = .ok (.aaload, 1) := by decide +kernel
theorem dX3_endFailure_20 : decode cX3_endFailure 20 = .ok (.getfield 85, 3) := by decide +kernel
theorem dX3_endFailure_23 : decode cX3_endFailure 23 = .ok (.iconst 1, 1) := by decide +kernel
theorem dX3_endFailure_24 : decode cX3_endFailure 24 = .ok (.if_icmp .ne 22, 3) := by decide +kernel
theorem dX3_endFailure_27 : decode cX3_endFailure 27 = .ok (.aload_n 0, 1) := by decide +kernel
theorem dX3_endFailure_28 : decode cX3_endFailure 28 = .ok (.getfield 11, 3) := by decide +kernel
theorem dX3_endFailure_31 : decode cX3_endFailure 31 = .ok (.iload_n 2, 1) := by decide +kernel
theorem dX3_endFailure_32 : decode cX3_endFailure 32 = .ok (.aaload, 1) := by decide +kernel
theorem dX3_endFailure_33 : decode cX3_endFailure 33 = .ok (.iconst 3, 1) := by decide +kernel
theorem dX3_endFailure_34 : decode cX3_endFailure 34 = .ok (.putfield 85, 3) := by decide +kernel
theorem dX3_endFailure_37 : decode cX3_endFailure 37 = .ok (.aload_n 0, 1) := by decide +kernel
theorem dX3_endFailure_38 : decode cX3_endFailure 38 = .ok (.getfield 11, 3) := by decide +kernel
theorem dX3_endFailure_41 : decode cX3_endFailure 41 = .ok (.iload_n 2, 1) := by decide +kernel
theorem dX3_endFailure_42 : decode cX3_endFailure 42 = .ok (.aaload, 1) := by decide +kernel
theorem dX3_endFailure_43 : decode cX3_endFailure 43 = .ok (.invokevirtual 213, 3) := by decide +kernel
theorem dX3_endFailure_46 : decode cX3_endFailure 46 = .ok (.iinc 2 1, 3) := by decide +kernel
theorem dX3_endFailure_49 : decode cX3_endFailure 49 = .ok (.goto (-43), 3) := by decide +kernel
theorem dX3_endFailure_52 : decode cX3_endFailure 52 = .ok (.aload_n 0, 1) := by decide +kernel
theorem dX3_endFailure_53 : decode cX3_endFailure 53 = .ok (.iconst (-1), 1) := by decide +kernel
theorem dX3_endFailure_54 : decode cX3_endFailure 54 = .ok (.putfield 42, 3) := by decide +kernel
theorem dX3_endFailure_57 : decode cX3_endFailure 57 = .ok (.return_, 1) := by decide +kernel
set_option maxRecDepth 20000 in
theorem ggX3_eatLoss_X3_eatShares : GoodIn wsX3_eatLoss wsX3_eatShares := goodIn_r _ [11, 12, 13, 14, 15, 16, 17, 18, 19, 20, 21, 22, 23, 24, 25, 26, 27, 28, 29, 30, 3, 4, 5, 31, 32, 33, 34, 35, 36, 37, 38, 39, 40, 41, 42, 43, 44, 45, 46, 47, 48, 57, 58, 59, 60, 61, 62, 63, 64, 65, 66, 67, 68, 69, 70, 71, 72, 73, 74, 75, 76, 77, 78, 79, 80] (by decide +kernel) (by decide +kernel)
set_option maxRecDepth 20000 in
theorem gX3_eatLoss_X3_eatShares : GoodIn wsX3_eatLoss (wsV RX3 216 RX3 yX3_eatShares wsX3_eatShares) := goodIn_app (goodIn_of _ (by decide +kernel)) ggX3_eatLoss_X3_eatShares
set_option maxRecDepth 20000 in
theorem ggX3_eatLoss_X3_eatAssessments : GoodIn wsX3_eatLoss wsX3_eatAssessments := goodIn_r _ [52, 12, 13, 14, 15, 16, 17, 18, 19, 20, 21, 22, 23, 24, 25, 26, 27, 28, 29, 30, 3, 4, 5, 31, 32, 33, 34, 35, 36, 37, 38, 39, 40, 41, 42, 43, 44, 45, 46, 47, 48, 57, 58, 59, 60, 61, 62, 63, 64, 65, 66, 67, 68, 69, 70, 71, 72, 73, 74, 75, 76, 77, 78, 79, 80] (by decide +kernel) (by decide +kernel)
set_option maxRecDepth 20000 in
theorem gX3_eatLoss_X3_eatAssessments : GoodIn wsX3_eatLoss (wsV RX3 220 RX3 yX3_eatAssessments wsX3_eatAssessments) := goodIn_app (goodIn_of _ (by decide +kernel)) ggX3_eatLoss_X3_eatAssessments
set_option maxRecDepth 20000 in
theorem ggX3_eatLoss_X3_eatGains : GoodIn wsX3_eatLoss wsX3_eatGains := goodIn_r _ [56, 12, 13, 14, 15, 16, 17, 18, 19, 20, 21, 22, 23, 24, 25, 26, 27, 28, 29, 30, 3, 4, 5, 31, 32, 33, 34, 35, 36, 37, 38, 39, 40, 41, 42, 43, 44, 45, 46, 47, 48, 57, 58, 59, 60, 61, 62, 63, 64, 65, 66, 67, 68, 69, 70, 71, 72, 73, 74, 75, 76, 77, 78, 79, 80] (by decide +kernel) (by decide +kernel)
set_option maxRecDepth 20000 in
theorem gX3_eatLoss_X3_eatGains : GoodIn wsX3_eatLoss (wsV RX3 223 RX3 yX3_eatGains wsX3_eatGains) := goodIn_app (goodIn_of _ (by decide +kernel)) ggX3_eatLoss_X3_eatGains
theorem dX3_eatLoss_0 : decode cX3_eatLoss 0 = .ok (.aload_n 0, 1) := by decide +kernel
theorem dX3_eatLoss_1 : decode cX3_eatLoss 1 = .ok (.getfield 36, 3) := by decide +kernel
theorem dX3_eatLoss_4 : decode cX3_eatLoss 4 = .ok (.istore_n 2, 1) := by decide +kernel
theorem dX3_eatLoss_5 : decode cX3_eatLoss 5 = .ok (.iload_n 2, 1) := by decide +kernel
theorem dX3_eatLoss_6 : decode cX3_eatLoss 6 = .ok (.iload_n 2, 1) := by decide +kernel
theorem dX3_eatLoss_7 : decode cX3_eatLoss 7 = .ok (.aload_n 1, 1) := by decide +kernel
theorem dX3_eatLoss_8 : decode cX3_eatLoss 8 = .ok (.getfield 100, 3) := by decide +kernel
theorem dX3_eatLoss_11 : decode cX3_eatLoss 11 = .ok (.invokestatic 188, 3) := by decide +kernel
theorem dX3_eatLoss_14 : decode cX3_eatLoss 14 = .ok (.isub, 1) := by decide +kernel
theorem dX3_eatLoss_15 : decode cX3_eatLoss 15 = .ok (.istore_n 2, 1) := by decide +kernel
theorem dX3_eatLoss_16 : decode cX3_eatLoss 16 = .ok (.iload_n 2, 1) := by decide +kernel
theorem dX3_eatLoss_17 : decode cX3_eatLoss 17 = .ok (.iload_n 2, 1) := by decide +kernel
theorem dX3_eatLoss_18 : decode cX3_eatLoss 18 = .ok (.aload_n 1, 1) := by decide +kernel
theorem dX3_eatLoss_19 : decode cX3_eatLoss 19 = .ok (.getfield 116, 3) := by decide +kernel
theorem dX3_eatLoss_22 : decode cX3_eatLoss 22 = .ok (.invokestatic 188, 3) := by decide +kernel
theorem dX3_eatLoss_25 : decode cX3_eatLoss 25 = .ok (.isub, 1) := by decide +kernel
theorem dX3_eatLoss_26 : decode cX3_eatLoss 26 = .ok (.istore_n 2, 1) := by decide +kernel
theorem dX3_eatLoss_27 : decode cX3_eatLoss 27 = .ok (.iload_n 2, 1) := by decide +kernel
theorem dX3_eatLoss_28 : decode cX3_eatLoss 28 = .ok (.aload_n 0, 1) := by decide +kernel
theorem dX3_eatLoss_29 : decode cX3_eatLoss 29 = .ok (.getfield 33, 3) := by decide +kernel
theorem dX3_eatLoss_32 : decode cX3_eatLoss 32 = .ok (.invokestatic 188, 3) := by decide +kernel
theorem dX3_eatLoss_35 : decode cX3_eatLoss 35 = .ok (.istore_n 3, 1) := by decide +kernel
theorem dX3_eatLoss_36 : decode cX3_eatLoss 36 = .ok (.aload_n 0, 1) := by decide +kernel
theorem dX3_eatLoss_37 : decode cX3_eatLoss 37 = .ok (.dup, 1) := by decide +kernel
theorem dX3_eatLoss_38 : decode cX3_eatLoss 38 = .ok (.getfield 33, 3) := by decide +kernel
theorem dX3_eatLoss_41 : decode cX3_eatLoss 41 = .ok (.iload_n 3, 1) := by decide +kernel
theorem dX3_eatLoss_42 : decode cX3_eatLoss 42 = .ok (.isub, 1) := by decide +kernel
theorem dX3_eatLoss_43 : decode cX3_eatLoss 43 = .ok (.putfield 33, 3) := by decide +kernel
theorem dX3_eatLoss_46 : decode cX3_eatLoss 46 = .ok (.iload_n 2, 1) := by decide +kernel
theorem dX3_eatLoss_47 : decode cX3_eatLoss 47 = .ok (.iload_n 3, 1) := by decide +kernel
theorem dX3_eatLoss_48 : decode cX3_eatLoss 48 = .ok (.isub, 1) := by decide +kernel
theorem dX3_eatLoss_49 : decode cX3_eatLoss 49 = .ok (.istore_n 2, 1) := by decide +kernel
theorem dX3_eatLoss_50 : decode cX3_eatLoss 50 = .ok (.aload_n 0, 1) := by decide +kernel
theorem dX3_eatLoss_51 : decode cX3_eatLoss 51 = .ok (.iload_n 2, 1) := by decide +kernel
theorem dX3_eatLoss_52 : decode cX3_eatLoss 52 = .ok (.iconst 1, 1) := by decide +kernel
theorem dX3_eatLoss_53 : decode cX3_eatLoss 53 = .ok (.invokevirtual 216, 3) := by decide +kernel
theorem dX3_eatLoss_56 : decode cX3_eatLoss 56 = .ok (.istore_n 2, 1) := by decide +kernel
theorem dX3_eatLoss_57 : decode cX3_eatLoss 57 = .ok (.aload_n 0, 1) := by decide +kernel
theorem dX3_eatLoss_58 : decode cX3_eatLoss 58 = .ok (.iload_n 2, 1) := by decide +kernel
theorem dX3_eatLoss_59 : decode cX3_eatLoss 59 = .ok (.iconst 0, 1) := by decide +kernel
theorem dX3_eatLoss_60 : decode cX3_eatLoss 60 = .ok (.invokevirtual 216, 3) := by decide +kernel
theorem dX3_eatLoss_63 : decode cX3_eatLoss 63 = .ok (.istore_n 2, 1) := by decide +kernel
theorem dX3_eatLoss_64 : decode cX3_eatLoss 64 = .ok (.aload_n 0, 1) := by decide +kernel
theorem dX3_eatLoss_65 : decode cX3_eatLoss 65 = .ok (.iload_n 2, 1) := by decide +kernel
theorem dX3_eatLoss_66 : decode cX3_eatLoss 66 = .ok (.invokevirtual 220, 3) := by decide +kernel
theorem dX3_eatLoss_69 : decode cX3_eatLoss 69 = .ok (.istore_n 2, 1) := by decide +kernel
theorem dX3_eatLoss_70 : decode cX3_eatLoss 70 = .ok (.aload_n 0, 1) := by decide +kernel
theorem dX3_eatLoss_71 : decode cX3_eatLoss 71 = .ok (.iload_n 2, 1) := by decide +kernel
theorem dX3_eatLoss_72 : decode cX3_eatLoss 72 = .ok (.invokevirtual 223, 3) := by decide +kernel
theorem dX3_eatLoss_75 : decode cX3_eatLoss 75 = .ok (.ireturn, 1) := by decide +kernel
set_option maxRecDepth 20000 in
theorem ggX3_eatShares_X1_isActive : GoodIn wsX3_eatShares wsX1_isActive := goodIn_r _ [7, 8, 49, 50, 51, 52, 53, 54, 55, 56, 57, 58, 59, 60, 61] (by decide +kernel) (by decide +kernel)
set_option maxRecDepth 20000 in
theorem gX3_eatShares_X1_isActive_n96 : GoodIn wsX3_eatShares (wsX1_isActive) := ggX3_eatShares_X1_isActive
set_option maxRecDepth 20000 in
theorem ggX3_eatShares_X2_enter : GoodIn wsX3_eatShares wsX2_enter := goodIn_r _ [12, 13, 14, 62, 63, 64] (by decide +kernel) (by decide +kernel)
set_option maxRecDepth 20000 in
theorem gX3_eatShares_X2_enter_n103 : GoodIn wsX3_eatShares (wsX2_enter) := ggX3_eatShares_X2_enter
set_option maxRecDepth 20000 in
theorem ggX3_eatShares_X2_part : GoodIn wsX3_eatShares wsX2_part := goodIn_r _ [17, 13, 18, 14, 19, 20, 21, 22, 23, 24, 25, 10, 26, 27, 28, 29, 30, 31, 32, 33, 34, 35, 36, 37, 62, 63, 64] (by decide +kernel) (by decide +kernel)
set_option maxRecDepth 20000 in
theorem gX3_eatShares_X2_part_n106 : GoodIn wsX3_eatShares (wsX2_part) := ggX3_eatShares_X2_part
set_option maxRecDepth 20000 in
theorem ggX3_eatShares_X2_partOf : GoodIn wsX3_eatShares wsX2_partOf := goodIn_r _ [40, 18, 62, 63, 64] (by decide +kernel) (by decide +kernel)
set_option maxRecDepth 20000 in
theorem gX3_eatShares_X2_partOf_n110 : GoodIn wsX3_eatShares (wsX2_partOf) := ggX3_eatShares_X2_partOf
theorem dX3_eatShares_0 : decode cX3_eatShares 0 = .ok (.iconst 0, 1) := by decide +kernel
theorem dX3_eatShares_1 : decode cX3_eatShares 1 = .ok (.istore_n 3, 1) := by decide +kernel
theorem dX3_eatShares_2 : decode cX3_eatShares 2 = .ok (.iload_n 3, 1) := by decide +kernel
theorem dX3_eatShares_3 : decode cX3_eatShares 3 = .ok (.aload_n 0, 1) := by decide +kernel
theorem dX3_eatShares_4 : decode cX3_eatShares 4 = .ok (.getfield 29, 3) := by decide +kernel
theorem dX3_eatShares_7 : decode cX3_eatShares 7 = .ok (.if_icmp .ge 68, 3) := by decide +kernel
theorem dX3_eatShares_10 : decode cX3_eatShares 10 = .ok (.aload_n 0, 1) := by decide +kernel
theorem dX3_eatShares_11 : decode cX3_eatShares 11 = .ok (.getfield 11, 3) := by decide +kernel
theorem dX3_eatShares_14 : decode cX3_eatShares 14 = .ok (.iload_n 3, 1) := by decide +kernel
theorem dX3_eatShares_15 : decode cX3_eatShares 15 = .ok (.aaload, 1) := by decide +kernel
theorem dX3_eatShares_16 : decode cX3_eatShares 16 = .ok (.astore 4, 2) := by decide +kernel
theorem dX3_eatShares_18 : decode cX3_eatShares 18 = .ok (.aload 4, 2) := by decide +kernel
theorem dX3_eatShares_20 : decode cX3_eatShares 20 = .ok (.invokevirtual 96, 3) := by decide +kernel
theorem dX3_eatShares_23 : decode cX3_eatShares 23 = .ok (.ifCond .eq 16, 3) := by decide +kernel
theorem dX3_eatShares_26 : decode cX3_eatShares 26 = .ok (.aload 4, 2) := by decide +kernel
theorem dX3_eatShares_28 : decode cX3_eatShares 28 = .ok (.getfield 164, 3) := by decide +kernel
theorem dX3_eatShares_31 : decode cX3_eatShares 31 = .ok (.iload_n 2, 1) := by decide +kernel
theorem dX3_eatShares_32 : decode cX3_eatShares 32 = .ok (.if_icmp .ne 7, 3) := by decide +kernel
theorem dX3_eatShares_35 : decode cX3_eatShares 35 = .ok (.iconst 1, 1) := by decide +kernel
theorem dX3_eatShares_36 : decode cX3_eatShares 36 = .ok (.goto 4, 3) := by decide +kernel
theorem dX3_eatShares_39 : decode cX3_eatShares 39 = .ok (.iconst 0, 1) := by decide +kernel
theorem dX3_eatShares_40 : decode cX3_eatShares 40 = .ok (.istore 5, 2) := by decide +kernel
theorem dX3_eatShares_42 : decode cX3_eatShares 42 = .ok (.aload_n 0, 1) := by decide +kernel
theorem dX3_eatShares_43 : decode cX3_eatShares 43 = .ok (.getfield 25, 3) := by decide +kernel
theorem dX3_eatShares_46 : decode cX3_eatShares 46 = .ok (.iload_n 3, 1) := by decide +kernel
theorem dX3_eatShares_47 : decode cX3_eatShares 47 = .ok (.iload 5, 2) := by decide +kernel
theorem dX3_eatShares_49 : decode cX3_eatShares 49 = .ok (.ifCond .eq 11, 3) := by decide +kernel
theorem dX3_eatShares_52 : decode cX3_eatShares 52 = .ok (.aload 4, 2) := by decide +kernel
theorem dX3_eatShares_54 : decode cX3_eatShares 54 = .ok (.getfield 116, 3) := by decide +kernel
theorem dX3_eatShares_57 : decode cX3_eatShares 57 = .ok (.goto 4, 3) := by decide +kernel
theorem dX3_eatShares_60 : decode cX3_eatShares 60 = .ok (.iconst 0, 1) := by decide +kernel
theorem dX3_eatShares_61 : decode cX3_eatShares 61 = .ok (.aload 4, 2) := by decide +kernel
theorem dX3_eatShares_63 : decode cX3_eatShares 63 = .ok (.getfield 116, 3) := by decide +kernel
theorem dX3_eatShares_66 : decode cX3_eatShares 66 = .ok (.invokevirtual 103, 3) := by decide +kernel
theorem dX3_eatShares_69 : decode cX3_eatShares 69 = .ok (.iinc 3 1, 3) := by decide +kernel
theorem dX3_eatShares_72 : decode cX3_eatShares 72 = .ok (.goto (-70), 3) := by decide +kernel
theorem dX3_eatShares_75 : decode cX3_eatShares 75 = .ok (.aload_n 0, 1) := by decide +kernel
theorem dX3_eatShares_76 : decode cX3_eatShares 76 = .ok (.getfield 25, 3) := by decide +kernel
theorem dX3_eatShares_79 : decode cX3_eatShares 79 = .ok (.iload_n 1, 1) := by decide +kernel
theorem dX3_eatShares_80 : decode cX3_eatShares 80 = .ok (.invokevirtual 106, 3) := by decide +kernel
theorem dX3_eatShares_83 : decode cX3_eatShares 83 = .ok (.istore_n 3, 1) := by decide +kernel
theorem dX3_eatShares_84 : decode cX3_eatShares 84 = .ok (.iconst 0, 1) := by decide +kernel
theorem dX3_eatShares_85 : decode cX3_eatShares 85 = .ok (.istore 4, 2) := by decide +kernel
theorem dX3_eatShares_87 : decode cX3_eatShares 87 = .ok (.iload 4, 2) := by decide +kernel
theorem dX3_eatShares_89 : decode cX3_eatShares 89 = .ok (.aload_n 0, 1) := by decide +kernel
theorem dX3_eatShares_90 : decode cX3_eatShares 90 = .ok (.getfield 29, 3) := by decide +kernel
theorem dX3_eatShares_93 : decode cX3_eatShares 93 = .ok (.if_icmp .ge 33, 3) := by decide +kernel
theorem dX3_eatShares_96 : decode cX3_eatShares 96 = .ok (.aload_n 0, 1) := by decide +kernel
theorem dX3_eatShares_97 : decode cX3_eatShares 97 = .ok (.getfield 11, 3) := by decide +kernel
theorem dX3_eatShares_100 : decode cX3_eatShares 100 = .ok (.iload 4, 2) := by decide +kernel
theorem dX3_eatShares_102 : decode cX3_eatShares 102 = .ok (.aaload, 1) := by decide +kernel
theorem dX3_eatShares_103 : decode cX3_eatShares 103 = .ok (.dup, 1) := by decide +kernel
theorem dX3_eatShares_104 : decode cX3_eatShares 104 = .ok (.getfield 116, 3) := by decide +kernel
theorem dX3_eatShares_107 : decode cX3_eatShares 107 = .ok (.aload_n 0, 1) := by decide +kernel
theorem dX3_eatShares_108 : decode cX3_eatShares 108 = .ok (.getfield 25, 3) := by decide +kernel
theorem dX3_eatShares_111 : decode cX3_eatShares 111 = .ok (.iload 4, 2) := by decide +kernel
theorem dX3_eatShares_113 : decode cX3_eatShares 113 = .ok (.invokevirtual 110, 3) := by decide +kernel
theorem dX3_eatShares_116 : decode cX3_eatShares 116 = .ok (.isub, 1) := by decide +kernel
theorem dX3_eatShares_117 : decode cX3_eatShares 117 = .ok (.putfield 116, 3) := by decide +kernel
theorem dX3_eatShares_120 : decode cX3_eatShares 120 = .ok (.iinc 4 1, 3) := by decide +kernel
theorem dX3_eatShares_123 : decode cX3_eatShares 123 = .ok (.goto (-36), 3) := by decide +kernel
theorem dX3_eatShares_126 : decode cX3_eatShares 126 = .ok (.iload_n 3, 1) := by decide +kernel
theorem dX3_eatShares_127 : decode cX3_eatShares 127 = .ok (.ireturn, 1) := by decide +kernel
set_option maxRecDepth 20000 in
theorem ggX3_eatAssessments_X1_isActive : GoodIn wsX3_eatAssessments wsX1_isActive := goodIn_r _ [7, 8, 49, 50, 51, 52, 53, 54, 55, 56, 57, 58, 59, 60, 61] (by decide +kernel) (by decide +kernel)
set_option maxRecDepth 20000 in
theorem gX3_eatAssessments_X1_isActive_n96 : GoodIn wsX3_eatAssessments (wsX1_isActive) := ggX3_eatAssessments_X1_isActive
set_option maxRecDepth 20000 in
theorem ggX3_eatAssessments_X2_enter : GoodIn wsX3_eatAssessments wsX2_enter := goodIn_r _ [12, 13, 14, 62, 63, 64] (by decide +kernel) (by decide +kernel)
set_option maxRecDepth 20000 in
theorem gX3_eatAssessments_X2_enter_n103 : GoodIn wsX3_eatAssessments (wsX2_enter) := ggX3_eatAssessments_X2_enter
set_option maxRecDepth 20000 in
theorem ggX3_eatAssessments_X2_part : GoodIn wsX3_eatAssessments wsX2_part := goodIn_r _ [17, 13, 18, 14, 19, 20, 21, 22, 23, 24, 25, 10, 26, 27, 28, 29, 30, 31, 32, 33, 34, 35, 36, 37, 62, 63, 64] (by decide +kernel) (by decide +kernel)
set_option maxRecDepth 20000 in
theorem gX3_eatAssessments_X2_part_n106 : GoodIn wsX3_eatAssessments (wsX2_part) := ggX3_eatAssessments_X2_part
set_option maxRecDepth 20000 in
theorem ggX3_eatAssessments_X2_partOf : GoodIn wsX3_eatAssessments wsX2_partOf := goodIn_r _ [40, 18, 62, 63, 64] (by decide +kernel) (by decide +kernel)
set_option maxRecDepth 20000 in
theorem gX3_eatAssessments_X2_partOf_n110 : GoodIn wsX3_eatAssessments (wsX2_partOf) := ggX3_eatAssessments_X2_partOf
theorem dX3_eatAssessments_0 : decode cX3_eatAssessments 0 = .ok (.iconst 0, 1) := by decide +kernel
theorem dX3_eatAssessments_1 : decode cX3_eatAssessments 1 = .ok (.istore_n 2, 1) := by decide +kernel
theorem dX3_eatAssessments_2 : decode cX3_eatAssessments 2 = .ok (.iload_n 2, 1) := by decide +kernel
theorem dX3_eatAssessments_3 : decode cX3_eatAssessments 3 = .ok (.aload_n 0, 1) := by decide +kernel
theorem dX3_eatAssessments_4 : decode cX3_eatAssessments 4 = .ok (.getfield 29, 3) := by decide +kernel
theorem dX3_eatAssessments_7 : decode cX3_eatAssessments 7 = .ok (.if_icmp .ge 60, 3) := by decide +kernel
theorem dX3_eatAssessments_10 : decode cX3_eatAssessments 10 = .ok (.aload_n 0, 1) := by decide +kernel
theorem dX3_eatAssessments_11 : decode cX3_eatAssessments 11 = .ok (.getfield 11, 3) := by decide +kernel
theorem dX3_eatAssessments_14 : decode cX3_eatAssessments 14 = .ok (.iload_n 2, 1) := by decide +kernel
theorem dX3_eatAssessments_15 : decode cX3_eatAssessments 15 = .ok (.aaload, 1) := by decide +kernel
theorem dX3_eatAssessments_16 : decode cX3_eatAssessments 16 = .ok (.astore_n 3, 1) := by decide +kernel
theorem dX3_eatAssessments_17 : decode cX3_eatAssessments 17 = .ok (.aload_n 3, 1) := by decide +kernel
theorem dX3_eatAssessments_18 : decode cX3_eatAssessments 18 = .ok (.invokevirtual 96, 3) := by decide +kernel
theorem dX3_eatAssessments_21 : decode cX3_eatAssessments 21 = .ok (.ifCond .eq 10, 3) := by decide +kernel
theorem dX3_eatAssessments_24 : decode cX3_eatAssessments 24 = .ok (.aload_n 3, 1) := by decide +kernel
theorem dX3_eatAssessments_25 : decode cX3_eatAssessments 25 = .ok (.getfield 119, 3) := by decide +kernel
theorem dX3_eatAssessments_28 : decode cX3_eatAssessments 28 = .ok (.goto 4, 3) := by decide +kernel
theorem dX3_eatAssessments_31 : decode cX3_eatAssessments 31 = .ok (.iconst 0, 1) := by decide +kernel
theorem dX3_eatAssessments_32 : decode cX3_eatAssessments 32 = .ok (.istore 4, 2) := by decide +kernel
theorem dX3_eatAssessments_34 : decode cX3_eatAssessments 34 = .ok (.aload_n 0, 1) := by decide +kernel
theorem dX3_eatAssessments_35 : decode cX3_eatAssessments 35 = .ok (.getfield 25, 3) := by decide +kernel
theorem dX3_eatAssessments_38 : decode cX3_eatAssessments 38 = .ok (.iload_n 2, 1) := by decide +kernel
theorem dX3_eatAssessments_39 : decode cX3_eatAssessments 39 = .ok (.iload 4, 2) := by decide +kernel
theorem dX3_eatAssessments_41 : decode cX3_eatAssessments 41 = .ok (.aload_n 3, 1) := by decide +kernel
theorem dX3_eatAssessments_42 : decode cX3_eatAssessments 42 = .ok (.getfield 85, 3) := by decide +kernel
theorem dX3_eatAssessments_45 : decode cX3_eatAssessments 45 = .ok (.iconst 1, 1) := by decide +kernel
theorem dX3_eatAssessments_46 : decode cX3_eatAssessments 46 = .ok (.if_icmp .ne 10, 3) := by decide +kernel
theorem dX3_eatAssessments_49 : decode cX3_eatAssessments 49 = .ok (.iload 4, 2) := by decide +kernel
theorem dX3_eatAssessments_51 : decode cX3_eatAssessments 51 = .ok (.iconst 2, 1) := by decide +kernel
theorem dX3_eatAssessments_52 : decode cX3_eatAssessments 52 = .ok (.idiv, 1) := by decide +kernel
theorem dX3_eatAssessments_53 : decode cX3_eatAssessments 53 = .ok (.goto 5, 3) := by decide +kernel
theorem dX3_eatAssessments_56 : decode cX3_eatAssessments 56 = .ok (.iload 4, 2) := by decide +kernel
theorem dX3_eatAssessments_58 : decode cX3_eatAssessments 58 = .ok (.invokevirtual 103, 3) := by decide +kernel
theorem dX3_eatAssessments_61 : decode cX3_eatAssessments 61 = .ok (.iinc 2 1, 3) := by decide +kernel
theorem dX3_eatAssessments_64 : decode cX3_eatAssessments 64 = .ok (.goto (-62), 3) := by decide +kernel
theorem dX3_eatAssessments_67 : decode cX3_eatAssessments 67 = .ok (.aload_n 0, 1) := by decide +kernel
theorem dX3_eatAssessments_68 : decode cX3_eatAssessments 68 = .ok (.getfield 25, 3) := by decide +kernel
theorem dX3_eatAssessments_71 : decode cX3_eatAssessments 71 = .ok (.iload_n 1, 1) := by decide +kernel
theorem dX3_eatAssessments_72 : decode cX3_eatAssessments 72 = .ok (.invokevirtual 106, 3) := by decide +kernel
theorem dX3_eatAssessments_75 : decode cX3_eatAssessments 75 = .ok (.istore_n 2, 1) := by decide +kernel
theorem dX3_eatAssessments_76 : decode cX3_eatAssessments 76 = .ok (.iconst 0, 1) := by decide +kernel
theorem dX3_eatAssessments_77 : decode cX3_eatAssessments 77 = .ok (.istore_n 3, 1) := by decide +kernel
theorem dX3_eatAssessments_78 : decode cX3_eatAssessments 78 = .ok (.iload_n 3, 1) := by decide +kernel
theorem dX3_eatAssessments_79 : decode cX3_eatAssessments 79 = .ok (.aload_n 0, 1) := by decide +kernel
theorem dX3_eatAssessments_80 : decode cX3_eatAssessments 80 = .ok (.getfield 29, 3) := by decide +kernel
theorem dX3_eatAssessments_83 : decode cX3_eatAssessments 83 = .ok (.if_icmp .ge 31, 3) := by decide +kernel
theorem dX3_eatAssessments_86 : decode cX3_eatAssessments 86 = .ok (.aload_n 0, 1) := by decide +kernel
theorem dX3_eatAssessments_87 : decode cX3_eatAssessments 87 = .ok (.getfield 11, 3) := by decide +kernel
theorem dX3_eatAssessments_90 : decode cX3_eatAssessments 90 = .ok (.iload_n 3, 1) := by decide +kernel
theorem dX3_eatAssessments_91 : decode cX3_eatAssessments 91 = .ok (.aaload, 1) := by decide +kernel
theorem dX3_eatAssessments_92 : decode cX3_eatAssessments 92 = .ok (.dup, 1) := by decide +kernel
theorem dX3_eatAssessments_93 : decode cX3_eatAssessments 93 = .ok (.getfield 168, 3) := by decide +kernel
theorem dX3_eatAssessments_96 : decode cX3_eatAssessments 96 = .ok (.aload_n 0, 1) := by decide +kernel
theorem dX3_eatAssessments_97 : decode cX3_eatAssessments 97 = .ok (.getfield 25, 3) := by decide +kernel
theorem dX3_eatAssessments_100 : decode cX3_eatAssessments 100 = .ok (.iload_n 3, 1) := by decide +kernel
theorem dX3_eatAssessments_101 : decode cX3_eatAssessments 101 = .ok (.invokevirtual 110, 3) := by decide +kernel
theorem dX3_eatAssessments_104 : decode cX3_eatAssessments 104 = .ok (.iadd, 1) := by decide +kernel
theorem dX3_eatAssessments_105 : decode cX3_eatAssessments 105 = .ok (.putfield 168, 3) := by decide +kernel
theorem dX3_eatAssessments_108 : decode cX3_eatAssessments 108 = .ok (.iinc 3 1, 3) := by decide +kernel
theorem dX3_eatAssessments_111 : decode cX3_eatAssessments 111 = .ok (.goto (-33), 3) := by decide +kernel
theorem dX3_eatAssessments_114 : decode cX3_eatAssessments 114 = .ok (.iload_n 2, 1) := by decide +kernel
theorem dX3_eatAssessments_115 : decode cX3_eatAssessments 115 = .ok (.ireturn, 1) := by decide +kernel
set_option maxRecDepth 20000 in
theorem ggX3_eatGains_X1_isActive : GoodIn wsX3_eatGains wsX1_isActive := goodIn_r _ [7, 8, 49, 50, 51, 52, 53, 54, 55, 56, 57, 58, 59, 60, 61] (by decide +kernel) (by decide +kernel)
set_option maxRecDepth 20000 in
theorem gX3_eatGains_X1_isActive_n96 : GoodIn wsX3_eatGains (wsX1_isActive) := ggX3_eatGains_X1_isActive
set_option maxRecDepth 20000 in
theorem ggX3_eatGains_X2_enter : GoodIn wsX3_eatGains wsX2_enter := goodIn_r _ [12, 13, 14, 62, 63, 64] (by decide +kernel) (by decide +kernel)
set_option maxRecDepth 20000 in
theorem gX3_eatGains_X2_enter_n103 : GoodIn wsX3_eatGains (wsX2_enter) := ggX3_eatGains_X2_enter
set_option maxRecDepth 20000 in
theorem ggX3_eatGains_X2_part : GoodIn wsX3_eatGains wsX2_part := goodIn_r _ [17, 13, 18, 14, 19, 20, 21, 22, 23, 24, 25, 10, 26, 27, 28, 29, 30, 31, 32, 33, 34, 35, 36, 37, 62, 63, 64] (by decide +kernel) (by decide +kernel)
set_option maxRecDepth 20000 in
theorem gX3_eatGains_X2_part_n106 : GoodIn wsX3_eatGains (wsX2_part) := ggX3_eatGains_X2_part
set_option maxRecDepth 20000 in
theorem ggX3_eatGains_X2_partOf : GoodIn wsX3_eatGains wsX2_partOf := goodIn_r _ [40, 18, 62, 63, 64] (by decide +kernel) (by decide +kernel)
set_option maxRecDepth 20000 in
theorem gX3_eatGains_X2_partOf_n110 : GoodIn wsX3_eatGains (wsX2_partOf) := ggX3_eatGains_X2_partOf
theorem dX3_eatGains_0 : decode cX3_eatGains 0 = .ok (.iconst 0, 1) := by decide +kernel
theorem dX3_eatGains_1 : decode cX3_eatGains 1 = .ok (.istore_n 2, 1) := by decide +kernel
theorem dX3_eatGains_2 : decode cX3_eatGains 2 = .ok (.iload_n 2, 1) := by decide +kernel
theorem dX3_eatGains_3 : decode cX3_eatGains 3 = .ok (.aload_n 0, 1) := by decide +kernel
theorem dX3_eatGains_4 : decode cX3_eatGains 4 = .ok (.getfield 29, 3) := by decide +kernel
theorem dX3_eatGains_7 : decode cX3_eatGains 7 = .ok (.if_icmp .ge 43, 3) := by decide +kernel
theorem dX3_eatGains_10 : decode cX3_eatGains 10 = .ok (.aload_n 0, 1) := by decide +kernel
theorem dX3_eatGains_11 : decode cX3_eatGains 11 = .ok (.getfield 11, 3) := by decide +kernel
theorem dX3_eatGains_14 : decode cX3_eatGains 14 = .ok (.iload_n 2, 1) := by decide +kernel
theorem dX3_eatGains_15 : decode cX3_eatGains 15 = .ok (.aaload, 1) := by decide +kernel
theorem dX3_eatGains_16 : decode cX3_eatGains 16 = .ok (.astore_n 3, 1) := by decide +kernel
theorem dX3_eatGains_17 : decode cX3_eatGains 17 = .ok (.aload_n 0, 1) := by decide +kernel
theorem dX3_eatGains_18 : decode cX3_eatGains 18 = .ok (.getfield 25, 3) := by decide +kernel
theorem dX3_eatGains_21 : decode cX3_eatGains 21 = .ok (.iload_n 2, 1) := by decide +kernel
theorem dX3_eatGains_22 : decode cX3_eatGains 22 = .ok (.aload_n 3, 1) := by decide +kernel
theorem dX3_eatGains_23 : decode cX3_eatGains 23 = .ok (.invokevirtual 96, 3) := by decide +kernel
theorem dX3_eatGains_26 : decode cX3_eatGains 26 = .ok (.ifCond .eq 10, 3) := by decide +kernel
theorem dX3_eatGains_29 : decode cX3_eatGains 29 = .ok (.aload_n 3, 1) := by decide +kernel
theorem dX3_eatGains_30 : decode cX3_eatGains 30 = .ok (.getfield 79, 3) := by decide +kernel
theorem dX3_eatGains_33 : decode cX3_eatGains 33 = .ok (.goto 4, 3) := by decide +kernel
theorem dX3_eatGains_36 : decode cX3_eatGains 36 = .ok (.iconst 0, 1) := by decide +kernel
theorem dX3_eatGains_37 : decode cX3_eatGains 37 = .ok (.aload_n 3, 1) := by decide +kernel
theorem dX3_eatGains_38 : decode cX3_eatGains 38 = .ok (.getfield 79, 3) := by decide +kernel
theorem dX3_eatGains_41 : decode cX3_eatGains 41 = .ok (.invokevirtual 103, 3) := by decide +kernel
theorem dX3_eatGains_44 : decode cX3_eatGains 44 = .ok (.iinc 2 1, 3) := by decide +kernel
theorem dX3_eatGains_47 : decode cX3_eatGains 47 = .ok (.goto (-45), 3) := by decide +kernel
theorem dX3_eatGains_50 : decode cX3_eatGains 50 = .ok (.aload_n 0, 1) := by decide +kernel
theorem dX3_eatGains_51 : decode cX3_eatGains 51 = .ok (.getfield 25, 3) := by decide +kernel
theorem dX3_eatGains_54 : decode cX3_eatGains 54 = .ok (.iload_n 1, 1) := by decide +kernel
theorem dX3_eatGains_55 : decode cX3_eatGains 55 = .ok (.invokevirtual 106, 3) := by decide +kernel
theorem dX3_eatGains_58 : decode cX3_eatGains 58 = .ok (.istore_n 2, 1) := by decide +kernel
theorem dX3_eatGains_59 : decode cX3_eatGains 59 = .ok (.iconst 0, 1) := by decide +kernel
theorem dX3_eatGains_60 : decode cX3_eatGains 60 = .ok (.istore_n 3, 1) := by decide +kernel
theorem dX3_eatGains_61 : decode cX3_eatGains 61 = .ok (.iload_n 3, 1) := by decide +kernel
theorem dX3_eatGains_62 : decode cX3_eatGains 62 = .ok (.aload_n 0, 1) := by decide +kernel
theorem dX3_eatGains_63 : decode cX3_eatGains 63 = .ok (.getfield 29, 3) := by decide +kernel
theorem dX3_eatGains_66 : decode cX3_eatGains 66 = .ok (.if_icmp .ge 31, 3) := by decide +kernel
theorem dX3_eatGains_69 : decode cX3_eatGains 69 = .ok (.aload_n 0, 1) := by decide +kernel
theorem dX3_eatGains_70 : decode cX3_eatGains 70 = .ok (.getfield 11, 3) := by decide +kernel
theorem dX3_eatGains_73 : decode cX3_eatGains 73 = .ok (.iload_n 3, 1) := by decide +kernel
theorem dX3_eatGains_74 : decode cX3_eatGains 74 = .ok (.aaload, 1) := by decide +kernel
theorem dX3_eatGains_75 : decode cX3_eatGains 75 = .ok (.dup, 1) := by decide +kernel
theorem dX3_eatGains_76 : decode cX3_eatGains 76 = .ok (.getfield 79, 3) := by decide +kernel
theorem dX3_eatGains_79 : decode cX3_eatGains 79 = .ok (.aload_n 0, 1) := by decide +kernel
theorem dX3_eatGains_80 : decode cX3_eatGains 80 = .ok (.getfield 25, 3) := by decide +kernel
theorem dX3_eatGains_83 : decode cX3_eatGains 83 = .ok (.iload_n 3, 1) := by decide +kernel
theorem dX3_eatGains_84 : decode cX3_eatGains 84 = .ok (.invokevirtual 110, 3) := by decide +kernel
theorem dX3_eatGains_87 : decode cX3_eatGains 87 = .ok (.isub, 1) := by decide +kernel
theorem dX3_eatGains_88 : decode cX3_eatGains 88 = .ok (.putfield 79, 3) := by decide +kernel
theorem dX3_eatGains_91 : decode cX3_eatGains 91 = .ok (.iinc 3 1, 3) := by decide +kernel
theorem dX3_eatGains_94 : decode cX3_eatGains 94 = .ok (.goto (-33), 3) := by decide +kernel
theorem dX3_eatGains_97 : decode cX3_eatGains 97 = .ok (.iload_n 2, 1) := by decide +kernel
theorem dX3_eatGains_98 : decode cX3_eatGains 98 = .ok (.ireturn, 1) := by decide +kernel
theorem dX4_init_0 : decode cX4_init 0 = .ok (.aload_n 0, 1) := by decide +kernel
theorem dX4_init_1 : decode cX4_init 1 = .ok (.invokespecial 1, 3) := by decide +kernel
theorem dX4_init_4 : decode cX4_init 4 = .ok (.aload_n 0, 1) := by decide +kernel
theorem dX4_init_5 : decode cX4_init 5 = .ok (.bipush 10, 2) := by decide +kernel
theorem dX4_init_7 : decode cX4_init 7 = .ok (.newarray .int, 2) := by decide +kernel
theorem dX4_init_9 : decode cX4_init 9 = .ok (.putfield 7, 3) := by decide +kernel
theorem dX4_init_12 : decode cX4_init 12 = .ok (.aload_n 0, 1) := by decide +kernel
theorem dX4_init_13 : decode cX4_init 13 = .ok (.bipush 10, 2) := by decide +kernel
theorem dX4_init_15 : decode cX4_init 15 = .ok (.newarray .int, 2) := by decide +kernel
theorem dX4_init_17 : decode cX4_init 17 = .ok (.putfield 13, 3) := by decide +kernel
theorem dX4_init_20 : decode cX4_init 20 = .ok (.aload_n 0, 1) := by decide +kernel
theorem dX4_init_21 : decode cX4_init 21 = .ok (.bipush 10, 2) := by decide +kernel
theorem dX4_init_23 : decode cX4_init 23 = .ok (.newarray .int, 2) := by decide +kernel
theorem dX4_init_25 : decode cX4_init 25 = .ok (.putfield 16, 3) := by decide +kernel
theorem dX4_init_28 : decode cX4_init 28 = .ok (.aload_n 0, 1) := by decide +kernel
theorem dX4_init_29 : decode cX4_init 29 = .ok (.bipush 10, 2) := by decide +kernel
theorem dX4_init_31 : decode cX4_init 31 = .ok (.newarray .int, 2) := by decide +kernel
theorem dX4_init_33 : decode cX4_init 33 = .ok (.putfield 19, 3) := by decide +kernel
theorem dX4_init_36 : decode cX4_init 36 = .ok (.aload_n 0, 1) := by decide +kernel
theorem dX4_init_37 : decode cX4_init 37 = .ok (.bipush 10, 2) := by decide +kernel
theorem dX4_init_39 : decode cX4_init 39 = .ok (.newarray .int, 2) := by decide +kernel
theorem dX4_init_41 : decode cX4_init 41 = .ok (.putfield 22, 3) := by decide +kernel
theorem dX4_init_44 : decode cX4_init 44 = .ok (.aload_n 0, 1) := by decide +kernel
theorem dX4_init_45 : decode cX4_init 45 = .ok (.bipush 10, 2) := by decide +kernel
theorem dX4_init_47 : decode cX4_init 47 = .ok (.newarray .int, 2) := by decide +kernel
theorem dX4_init_49 : decode cX4_init 49 = .ok (.putfield 25, 3) := by decide +kernel
theorem dX4_init_52 : decode cX4_init 52 = .ok (.aload_n 0, 1) := by decide +kernel
theorem dX4_init_53 : decode cX4_init 53 = .ok (.bipush 10, 2) := by decide +kernel
theorem dX4_init_55 : decode cX4_init 55 = .ok (.newarray .int, 2) := by decide +kernel
theorem dX4_init_57 : decode cX4_init 57 = .ok (.putfield 28, 3) := by decide +kernel
theorem dX4_init_60 : decode cX4_init 60 = .ok (.aload_n 0, 1) := by decide +kernel
theorem dX4_init_61 : decode cX4_init 61 = .ok (.bipush 10, 2) := by decide +kernel
theorem dX4_init_63 : decode cX4_init 63 = .ok (.newarray .int, 2) := by decide +kernel
theorem dX4_init_65 : decode cX4_init 65 = .ok (.putfield 31, 3) := by decide +kernel
theorem dX4_init_68 : decode cX4_init 68 = .ok (.aload_n 0, 1) := by decide +kernel
theorem dX4_init_69 : decode cX4_init 69 = .ok (.bipush 10, 2) := by decide +kernel
theorem dX4_init_71 : decode cX4_init 71 = .ok (.newarray .int, 2) := by decide +kernel
theorem dX4_init_73 : decode cX4_init 73 = .ok (.putfield 34, 3) := by decide +kernel
theorem dX4_init_76 : decode cX4_init 76 = .ok (.aload_n 0, 1) := by decide +kernel
theorem dX4_init_77 : decode cX4_init 77 = .ok (.sipush 1000, 3) := by decide +kernel
theorem dX4_init_80 : decode cX4_init 80 = .ok (.newarray .int, 2) := by decide +kernel
theorem dX4_init_82 : decode cX4_init 82 = .ok (.putfield 37, 3) := by decide +kernel
theorem dX4_init_85 : decode cX4_init 85 = .ok (.aload_n 0, 1) := by decide +kernel
theorem dX4_init_86 : decode cX4_init 86 = .ok (.sipush 1000, 3) := by decide +kernel
theorem dX4_init_89 : decode cX4_init 89 = .ok (.newarray .int, 2) := by decide +kernel
theorem dX4_init_91 : decode cX4_init 91 = .ok (.putfield 40, 3) := by decide +kernel
theorem dX4_init_94 : decode cX4_init 94 = .ok (.aload_n 0, 1) := by decide +kernel
theorem dX4_init_95 : decode cX4_init 95 = .ok (.sipush 1000, 3) := by decide +kernel
theorem dX4_init_98 : decode cX4_init 98 = .ok (.newarray .int, 2) := by decide +kernel
theorem dX4_init_100 : decode cX4_init 100 = .ok (.putfield 43, 3) := by decide +kernel
theorem dX4_init_103 : decode cX4_init 103 = .ok (.aload_n 0, 1) := by decide +kernel
theorem dX4_init_104 : decode cX4_init 104 = .ok (.iconst (-1), 1) := by decide +kernel
theorem dX4_init_105 : decode cX4_init 105 = .ok (.putfield 46, 3) := by decide +kernel
theorem dX4_init_108 : decode cX4_init 108 = .ok (.aload_n 0, 1) := by decide +kernel
theorem dX4_init_109 : decode cX4_init 109 = .ok (.sipush 1200, 3) := by decide +kernel
theorem dX4_init_112 : decode cX4_init 112 = .ok (.newarray .int, 2) := by decide +kernel
theorem dX4_init_114 : decode cX4_init 114 = .ok (.putfield 50, 3) := by decide +kernel
theorem dX4_init_117 : decode cX4_init 117 = .ok (.aload_n 0, 1) := by decide +kernel
theorem dX4_init_118 : decode cX4_init 118 = .ok (.bipush 10, 2) := by decide +kernel
theorem dX4_init_120 : decode cX4_init 120 = .ok (.newarray .int, 2) := by decide +kernel
theorem dX4_init_122 : decode cX4_init 122 = .ok (.putfield 53, 3) := by decide +kernel
theorem dX4_init_125 : decode cX4_init 125 = .ok (.aload_n 0, 1) := by decide +kernel
theorem dX4_init_126 : decode cX4_init 126 = .ok (.bipush 10, 2) := by decide +kernel
theorem dX4_init_128 : decode cX4_init 128 = .ok (.newarray .int, 2) := by decide +kernel
theorem dX4_init_130 : decode cX4_init 130 = .ok (.putfield 56, 3) := by decide +kernel
theorem dX4_init_133 : decode cX4_init 133 = .ok (.aload_n 0, 1) := by decide +kernel
theorem dX4_init_134 : decode cX4_init 134 = .ok (.bipush 10, 2) := by decide +kernel
theorem dX4_init_136 : decode cX4_init 136 = .ok (.newarray .int, 2) := by decide +kernel
theorem dX4_init_138 : decode cX4_init 138 = .ok (.putfield 59, 3) := by decide +kernel
theorem dX4_init_141 : decode cX4_init 141 = .ok (.aload_n 0, 1) := by decide +kernel
theorem dX4_init_142 : decode cX4_init 142 = .ok (.bipush 10, 2) := by decide +kernel
theorem dX4_init_144 : decode cX4_init 144 = .ok (.newarray .int, 2) := by decide +kernel
theorem dX4_init_146 : decode cX4_init 146 = .ok (.putfield 62, 3) := by decide +kernel
theorem dX4_init_149 : decode cX4_init 149 = .ok (.return_, 1) := by decide +kernel
theorem dX4_thrown_0 : decode cX4_thrown 0 = .ok (.aload_n 0, 1) := by decide +kernel
theorem dX4_thrown_1 : decode cX4_thrown 1 = .ok (.getfield 65, 3) := by decide +kernel
theorem dX4_thrown_4 : decode cX4_thrown 4 = .ok (.ireturn, 1) := by decide +kernel
theorem dX4_fails_0 : decode cX4_fails 0 = .ok (.aload_n 0, 1) := by decide +kernel
theorem dX4_fails_1 : decode cX4_fails 1 = .ok (.iload_n 1, 1) := by decide +kernel
theorem dX4_fails_2 : decode cX4_fails 2 = .ok (.putfield 65, 3) := by decide +kernel
theorem dX4_fails_5 : decode cX4_fails 5 = .ok (.iconst 0, 1) := by decide +kernel
theorem dX4_fails_6 : decode cX4_fails 6 = .ok (.ireturn, 1) := by decide +kernel
theorem dX4_in_0 : decode cX4_in 0 = .ok (.iload_n 0, 1) := by decide +kernel
theorem dX4_in_1 : decode cX4_in 1 = .ok (.iload_n 1, 1) := by decide +kernel
theorem dX4_in_2 : decode cX4_in 2 = .ok (.if_icmp .lt 12, 3) := by decide +kernel
theorem dX4_in_5 : decode cX4_in 5 = .ok (.iload_n 0, 1) := by decide +kernel
theorem dX4_in_6 : decode cX4_in 6 = .ok (.iload_n 2, 1) := by decide +kernel
theorem dX4_in_7 : decode cX4_in 7 = .ok (.if_icmp .gt 7, 3) := by decide +kernel
theorem dX4_in_10 : decode cX4_in 10 = .ok (.iconst 1, 1) := by decide +kernel
theorem dX4_in_11 : decode cX4_in 11 = .ok (.goto 4, 3) := by decide +kernel
theorem dX4_in_14 : decode cX4_in 14 = .ok (.iconst 0, 1) := by decide +kernel
theorem dX4_in_15 : decode cX4_in 15 = .ok (.ireturn, 1) := by decide +kernel
set_option maxRecDepth 20000 in
theorem ggX4_isMember_X4_in : GoodIn wsX4_isMember wsX4_in := goodIn_r _ [5] (by decide +kernel) (by decide +kernel)
set_option maxRecDepth 20000 in
theorem gX4_isMember_X4_in : GoodIn wsX4_isMember (va_wsS RX4 71 yX4_in wsX4_in) := goodIn_app (goodIn_of _ (by decide +kernel)) ggX4_isMember_X4_in
theorem dX4_isMember_0 : decode cX4_isMember 0 = .ok (.iload_n 1, 1) := by decide +kernel
theorem dX4_isMember_1 : decode cX4_isMember 1 = .ok (.iconst 0, 1) := by decide +kernel
theorem dX4_isMember_2 : decode cX4_isMember 2 = .ok (.aload_n 0, 1) := by decide +kernel
theorem dX4_isMember_3 : decode cX4_isMember 3 = .ok (.getfield 68, 3) := by decide +kernel
theorem dX4_isMember_6 : decode cX4_isMember 6 = .ok (.iconst 1, 1) := by decide +kernel
theorem dX4_isMember_7 : decode cX4_isMember 7 = .ok (.isub, 1) := by decide +kernel
theorem dX4_isMember_8 : decode cX4_isMember 8 = .ok (.invokestatic 71, 3) := by decide +kernel
theorem dX4_isMember_11 : decode cX4_isMember 11 = .ok (.ireturn, 1) := by decide +kernel
theorem dX4_isActive_0 : decode cX4_isActive 0 = .ok (.aload_n 0, 1) := by decide +kernel
theorem dX4_isActive_1 : decode cX4_isActive 1 = .ok (.getfield 25, 3) := by decide +kernel
theorem dX4_isActive_4 : decode cX4_isActive 4 = .ok (.iload_n 1, 1) := by decide +kernel
theorem dX4_isActive_5 : decode cX4_isActive 5 = .ok (.iaload, 1) := by decide +kernel
theorem dX4_isActive_6 : decode cX4_isActive 6 = .ok (.ifCond .eq 13, 3) := by decide +kernel
theorem dX4_isActive_9 : decode cX4_isActive 9 = .ok (.aload_n 0, 1) := by decide +kernel
theorem dX4_isActive_10 : decode cX4_isActive 10 = .ok (.getfield 25, 3) := by decide +kernel
theorem dX4_isActive_13 : decode cX4_isActive 13 = .ok (.iload_n 1, 1) := by decide +kernel
theorem dX4_isActive_14 : decode cX4_isActive 14 = .ok (.iaload, 1) := by decide +kernel
theorem dX4_isActive_15 : decode cX4_isActive 15 = .ok (.iconst 1, 1) := by decide +kernel
theorem dX4_isActive_16 : decode cX4_isActive 16 = .ok (.if_icmp .ne 7, 3) := by decide +kernel
theorem dX4_isActive_19 : decode cX4_isActive 19 = .ok (.iconst 1, 1) := by decide +kernel
theorem dX4_isActive_20 : decode cX4_isActive 20 = .ok (.goto 4, 3) := by decide +kernel
theorem dX4_isActive_23 : decode cX4_isActive 23 = .ok (.iconst 0, 1) := by decide +kernel
theorem dX4_isActive_24 : decode cX4_isActive 24 = .ok (.ireturn, 1) := by decide +kernel
set_option maxRecDepth 20000 in
theorem ggX4_addMember_X4_in : GoodIn wsX4_addMember wsX4_in := goodIn_r _ [10] (by decide +kernel) (by decide +kernel)
set_option maxRecDepth 20000 in
theorem gX4_addMember_X4_in : GoodIn wsX4_addMember (va_wsS RX4 71 yX4_in wsX4_in) := goodIn_app (goodIn_of _ (by decide +kernel)) ggX4_addMember_X4_in
set_option maxRecDepth 20000 in
theorem ggX4_addMember_X4_fails : GoodIn wsX4_addMember wsX4_fails := goodIn_r _ [14, 1, 15, 16, 17, 18, 19, 20, 21, 22, 23, 24, 25, 26, 27, 28, 29, 30, 31, 32, 33, 34, 35, 36, 37, 38, 39, 40] (by decide +kernel) (by decide +kernel)
set_option maxRecDepth 20000 in
theorem gX4_addMember_X4_fails : GoodIn wsX4_addMember (wsV RX4 76 RX4 yX4_fails wsX4_fails) := goodIn_app (goodIn_of _ (by decide +kernel)) ggX4_addMember_X4_fails
theorem dX4_addMember_0 : decode cX4_addMember 0 = .ok (.aload_n 0, 1) := by decide +kernel
theorem dX4_addMember_1 : decode cX4_addMember 1 = .ok (.iconst 0, 1) := by decide +kernel
theorem dX4_addMember_2 : decode cX4_addMember 2 = .ok (.putfield 65, 3) := by decide +kernel
theorem dX4_addMember_5 : decode cX4_addMember 5 = .ok (.iload_n 1, 1) := by decide +kernel
theorem dX4_addMember_6 : decode cX4_addMember 6 = .ok (.iconst 0, 1) := by decide +kernel
theorem dX4_addMember_7 : decode cX4_addMember 7 = .ok (.ldc 75, 2) := by decide +kernel
theorem dX4_addMember_9 : decode cX4_addMember 9 = .ok (.invokestatic 71, 3) := by decide +kernel
theorem dX4_addMember_12 : decode cX4_addMember 12 = .ok (.ifCond .eq 23, 3) := by decide +kernel
theorem dX4_addMember_15 : decode cX4_addMember 15 = .ok (.iload_n 2, 1) := by decide +kernel
theorem dX4_addMember_16 : decode cX4_addMember 16 = .ok (.iconst 0, 1) := by decide +kernel
theorem dX4_addMember_17 : decode cX4_addMember 17 = .ok (.ldc 75, 2) := by decide +kernel
theorem dX4_addMember_19 : decode cX4_addMember 19 = .ok (.invokestatic 71, 3) := by decide +kernel
theorem dX4_addMember_22 : decode cX4_addMember 22 = .ok (.ifCond .eq 13, 3) := by decide +kernel
theorem dX4_addMember_25 : decode cX4_addMember 25 = .ok (.iload_n 3, 1) := by decide +kernel
theorem dX4_addMember_26 : decode cX4_addMember 26 = .ok (.iconst 0, 1) := by decide +kernel
theorem dX4_addMember_27 : decode cX4_addMember 27 = .ok (.bipush 100, 2) := by decide +kernel
theorem dX4_addMember_29 : decode cX4_addMember 29 = .ok (.invokestatic 71, 3) := by decide +kernel
theorem dX4_addMember_32 : decode cX4_addMember 32 = .ok (.ifCond .ne 9, 3) := by decide +kernel
theorem dX4_addMember_35 : decode cX4_addMember 35 = .ok (.aload_n 0, 1) := by decide +kernel
theorem dX4_addMember_36 : decode cX4_addMember 36 = .ok (.iconst 1, 1) := by decide +kernel
theorem dX4_addMember_37 : decode cX4_addMember 37 = .ok (.invokevirtual 76, 3) := by decide +kernel
theorem dX4_addMember_40 : decode cX4_addMember 40 = .ok (.ireturn, 1) := by decide +kernel
theorem dX4_addMember_41 : decode cX4_addMember 41 = .ok (.aload_n 0, 1) := by decide +kernel
theorem dX4_addMember_42 : decode cX4_addMember 42 = .ok (.getfield 68, 3) := by decide +kernel
theorem dX4_addMember_45 : decode cX4_addMember 45 = .ok (.bipush 10, 2) := by decide +kernel
theorem dX4_addMember_47 : decode cX4_addMember 47 = .ok (.if_icmp .ne 9, 3) := by decide +kernel
theorem dX4_addMember_50 : decode cX4_addMember 50 = .ok (.aload_n 0, 1) := by decide +kernel
theorem dX4_addMember_51 : decode cX4_addMember 51 = .ok (.iconst 2, 1) := by decide +kernel
theorem dX4_addMember_52 : decode cX4_addMember 52 = .ok (.invokevirtual 76, 3) := by decide +kernel
theorem dX4_addMember_55 : decode cX4_addMember 55 = .ok (.ireturn, 1) := by decide +kernel
theorem dX4_addMember_56 : decode cX4_addMember 56 = .ok (.aload_n 0, 1) := by decide +kernel
theorem dX4_addMember_57 : decode cX4_addMember 57 = .ok (.getfield 7, 3) := by decide +kernel
theorem dX4_addMember_60 : decode cX4_addMember 60 = .ok (.aload_n 0, 1) := by decide +kernel
theorem dX4_addMember_61 : decode cX4_addMember 61 = .ok (.getfield 68, 3) := by decide +kernel
theorem dX4_addMember_64 : decode cX4_addMember 64 = .ok (.iload_n 1, 1) := by decide +kernel
theorem dX4_addMember_65 : decode cX4_addMember 65 = .ok (.iastore, 1) := by decide +kernel
theorem dX4_addMember_66 : decode cX4_addMember 66 = .ok (.aload_n 0, 1) := by decide +kernel
theorem dX4_addMember_67 : decode cX4_addMember 67 = .ok (.getfield 13, 3) := by decide +kernel
theorem dX4_addMember_70 : decode cX4_addMember 70 = .ok (.aload_n 0, 1) := by decide +kernel
theorem dX4_addMember_71 : decode cX4_addMember 71 = .ok (.getfield 68, 3) := by decide +kernel
theorem dX4_addMember_74 : decode cX4_addMember 74 = .ok (.iload_n 2, 1) := by decide +kernel
theorem dX4_addMember_75 : decode cX4_addMember 75 = .ok (.iastore, 1) := by decide +kernel
theorem dX4_addMember_76 : decode cX4_addMember 76 = .ok (.aload_n 0, 1) := by decide +kernel
theorem dX4_addMember_77 : decode cX4_addMember 77 = .ok (.getfield 16, 3) := by decide +kernel
theorem dX4_addMember_80 : decode cX4_addMember 80 = .ok (.aload_n 0, 1) := by decide +kernel
theorem dX4_addMember_81 : decode cX4_addMember 81 = .ok (.getfield 68, 3) := by decide +kernel
theorem dX4_addMember_84 : decode cX4_addMember 84 = .ok (.iload_n 3, 1) := by decide +kernel
theorem dX4_addMember_85 : decode cX4_addMember 85 = .ok (.iastore, 1) := by decide +kernel
theorem dX4_addMember_86 : decode cX4_addMember 86 = .ok (.aload_n 0, 1) := by decide +kernel
theorem dX4_addMember_87 : decode cX4_addMember 87 = .ok (.dup, 1) := by decide +kernel
theorem dX4_addMember_88 : decode cX4_addMember 88 = .ok (.getfield 68, 3) := by decide +kernel
theorem dX4_addMember_91 : decode cX4_addMember 91 = .ok (.iconst 1, 1) := by decide +kernel
theorem dX4_addMember_92 : decode cX4_addMember 92 = .ok (.iadd, 1) := by decide +kernel
theorem dX4_addMember_93 : decode cX4_addMember 93 = .ok (.putfield 68, 3) := by decide +kernel
theorem dX4_addMember_96 : decode cX4_addMember 96 = .ok (.aload_n 0, 1) := by decide +kernel
theorem dX4_addMember_97 : decode cX4_addMember 97 = .ok (.getfield 68, 3) := by decide +kernel
theorem dX4_addMember_100 : decode cX4_addMember 100 = .ok (.iconst 1, 1) := by decide +kernel
theorem dX4_addMember_101 : decode cX4_addMember 101 = .ok (.isub, 1) := by decide +kernel
theorem dX4_addMember_102 : decode cX4_addMember 102 = .ok (.ireturn, 1) := by decide +kernel
theorem dX4_lotsWith_0 : decode cX4_lotsWith 0 = .ok (.iconst 0, 1) := by decide +kernel
theorem dX4_lotsWith_1 : decode cX4_lotsWith 1 = .ok (.istore_n 2, 1) := by decide +kernel
theorem dX4_lotsWith_2 : decode cX4_lotsWith 2 = .ok (.iconst 0, 1) := by decide +kernel
theorem dX4_lotsWith_3 : decode cX4_lotsWith 3 = .ok (.istore_n 3, 1) := by decide +kernel
theorem dX4_lotsWith_4 : decode cX4_lotsWith 4 = .ok (.iload_n 3, 1) := by decide +kernel
theorem dX4_lotsWith_5 : decode cX4_lotsWith 5 = .ok (.aload_n 0, 1) := by decide +kernel
theorem dX4_lotsWith_6 : decode cX4_lotsWith 6 = .ok (.getfield 80, 3) := by decide +kernel
theorem dX4_lotsWith_9 : decode cX4_lotsWith 9 = .ok (.if_icmp .ge 32, 3) := by decide +kernel
theorem dX4_lotsWith_12 : decode cX4_lotsWith 12 = .ok (.iload_n 2, 1) := by decide +kernel
theorem dX4_lotsWith_13 : decode cX4_lotsWith 13 = .ok (.aload_n 0, 1) := by decide +kernel
theorem dX4_lotsWith_14 : decode cX4_lotsWith 14 = .ok (.getfield 37, 3) := by decide +kernel
theorem dX4_lotsWith_17 : decode cX4_lotsWith 17 = .ok (.iload_n 3, 1) := by decide +kernel
theorem dX4_lotsWith_18 : decode cX4_lotsWith 18 = .ok (.iaload, 1) := by decide +kernel
theorem dX4_lotsWith_19 : decode cX4_lotsWith 19 = .ok (.iload_n 1, 1) := by decide +kernel
theorem dX4_lotsWith_20 : decode cX4_lotsWith 20 = .ok (.if_icmp .ne 12, 3) := by decide +kernel
theorem dX4_lotsWith_23 : decode cX4_lotsWith 23 = .ok (.aload_n 0, 1) := by decide +kernel
theorem dX4_lotsWith_24 : decode cX4_lotsWith 24 = .ok (.getfield 40, 3) := by decide +kernel
theorem dX4_lotsWith_27 : decode cX4_lotsWith 27 = .ok (.iload_n 3, 1) := by decide +kernel
theorem dX4_lotsWith_28 : decode cX4_lotsWith 28 = .ok (.iaload, 1) := by decide +kernel
theorem dX4_lotsWith_29 : decode cX4_lotsWith 29 = .ok (.goto 4, 3) := by decide +kernel
theorem dX4_lotsWith_32 : decode cX4_lotsWith 32 = .ok (.iconst 0, 1) := by decide +kernel
theorem dX4_lotsWith_33 : decode cX4_lotsWith 33 = .ok (.iadd, 1) := by decide +kernel
theorem dX4_lotsWith_34 : decode cX4_lotsWith 34 = .ok (.istore_n 2, 1) := by decide +kernel
theorem dX4_lotsWith_35 : decode cX4_lotsWith 35 = .ok (.iinc 3 1, 3) := by decide +kernel
theorem dX4_lotsWith_38 : decode cX4_lotsWith 38 = .ok (.goto (-34), 3) := by decide +kernel
theorem dX4_lotsWith_41 : decode cX4_lotsWith 41 = .ok (.iload_n 2, 1) := by decide +kernel
theorem dX4_lotsWith_42 : decode cX4_lotsWith 42 = .ok (.ireturn, 1) := by decide +kernel
set_option maxRecDepth 20000 in
theorem ggX4_roomOf_X4_lotsWith : GoodIn wsX4_roomOf wsX4_lotsWith := goodIn_r _ [6, 7, 8, 9, 10, 11, 12, 13, 14, 15, 16, 17, 18, 19, 20, 21, 22, 23, 24, 25, 26, 27, 28, 29, 30, 31, 32, 33, 34, 35] (by decide +kernel) (by decide +kernel)
set_option maxRecDepth 20000 in
theorem gX4_roomOf_X4_lotsWith : GoodIn wsX4_roomOf (wsV RX4 83 RX4 yX4_lotsWith wsX4_lotsWith) := goodIn_app (goodIn_of _ (by decide +kernel)) ggX4_roomOf_X4_lotsWith
theorem dX4_roomOf_0 : decode cX4_roomOf 0 = .ok (.aload_n 0, 1) := by decide +kernel
theorem dX4_roomOf_1 : decode cX4_roomOf 1 = .ok (.getfield 16, 3) := by decide +kernel
theorem dX4_roomOf_4 : decode cX4_roomOf 4 = .ok (.iload_n 1, 1) := by decide +kernel
theorem dX4_roomOf_5 : decode cX4_roomOf 5 = .ok (.iaload, 1) := by decide +kernel
theorem dX4_roomOf_6 : decode cX4_roomOf 6 = .ok (.aload_n 0, 1) := by decide +kernel
theorem dX4_roomOf_7 : decode cX4_roomOf 7 = .ok (.iload_n 1, 1) := by decide +kernel
theorem dX4_roomOf_8 : decode cX4_roomOf 8 = .ok (.invokevirtual 83, 3) := by decide +kernel
theorem dX4_roomOf_11 : decode cX4_roomOf 11 = .ok (.isub, 1) := by decide +kernel
theorem dX4_roomOf_12 : decode cX4_roomOf 12 = .ok (.ireturn, 1) := by decide +kernel
set_option maxRecDepth 20000 in
theorem ggX4_addClient_X4_isMember : GoodIn wsX4_addClient wsX4_isMember := goodIn_r _ [11, 12, 13, 14, 10, 15, 34, 35, 36, 37, 38, 39, 40, 41, 42, 43, 44, 45, 46, 47, 48, 49, 50, 51, 52, 53, 54, 55, 56, 57, 58, 59] (by decide +kernel) (by decide +kernel)
set_option maxRecDepth 20000 in
theorem gX4_addClient_X4_isMember : GoodIn wsX4_addClient (wsV RX4 86 RX4 yX4_isMember wsX4_isMember) := goodIn_app (goodIn_of _ (by decide +kernel)) ggX4_addClient_X4_isMember
set_option maxRecDepth 20000 in
theorem ggX4_addClient_X4_fails : GoodIn wsX4_addClient wsX4_fails := goodIn_r _ [19, 1, 34, 35, 36, 37, 38, 39, 40, 41, 42, 43, 44, 45, 46, 47, 48, 49, 50, 51, 52, 53, 54, 55, 56, 57, 58, 59] (by decide +kernel) (by decide +kernel)
set_option maxRecDepth 20000 in
theorem gX4_addClient_X4_fails : GoodIn wsX4_addClient (wsV RX4 76 RX4 yX4_fails wsX4_fails) := goodIn_app (goodIn_of _ (by decide +kernel)) ggX4_addClient_X4_fails
set_option maxRecDepth 20000 in
theorem ggX4_addClient_X4_in : GoodIn wsX4_addClient wsX4_in := goodIn_r _ [15] (by decide +kernel) (by decide +kernel)
set_option maxRecDepth 20000 in
theorem gX4_addClient_X4_in : GoodIn wsX4_addClient (va_wsS RX4 71 yX4_in wsX4_in) := goodIn_app (goodIn_of _ (by decide +kernel)) ggX4_addClient_X4_in
set_option maxRecDepth 20000 in
theorem ggX4_addClient_X4_isActive : GoodIn wsX4_addClient wsX4_isActive := goodIn_r _ [23, 24, 34, 35, 36, 37, 38, 39, 40, 41, 42, 43, 44, 45, 46, 47, 48, 49, 50, 51, 52, 53, 54, 55, 56, 57, 58, 59] (by decide +kernel) (by decide +kernel)
set_option maxRecDepth 20000 in
theorem gX4_addClient_X4_isActive : GoodIn wsX4_addClient (wsV RX4 90 RX4 yX4_isActive wsX4_isActive) := goodIn_app (goodIn_of _ (by decide +kernel)) ggX4_addClient_X4_isActive
set_option maxRecDepth 20000 in
theorem ggX4_addClient_X4_roomOf : GoodIn wsX4_addClient wsX4_roomOf := goodIn_r _ [28, 29, 30, 31, 32, 10, 33, 3, 2, 4, 34, 35, 36, 37, 38, 39, 40, 41, 42, 43, 44, 45, 46, 47, 48, 49, 50, 51, 52, 53, 54, 55, 56, 57, 58, 59] (by decide +kernel) (by decide +kernel)
set_option maxRecDepth 20000 in
theorem gX4_addClient_X4_roomOf : GoodIn wsX4_addClient (wsV RX4 93 RX4 yX4_roomOf wsX4_roomOf) := goodIn_app (goodIn_of _ (by decide +kernel)) ggX4_addClient_X4_roomOf
theorem dX4_addClient_0 : decode cX4_addClient 0 = .ok (.aload_n 0, 1) := by decide +kernel
theorem dX4_addClient_1 : decode cX4_addClient 1 = .ok (.iconst 0, 1) := by decide +kernel
theorem dX4_addClient_2 : decode cX4_addClient 2 = .ok (.putfield 65, 3) := by decide +kernel
theorem dX4_addClient_5 : decode cX4_addClient 5 = .ok (.aload_n 0, 1) := by decide +kernel
theorem dX4_addClient_6 : decode cX4_addClient 6 = .ok (.iload_n 1, 1) := by decide +kernel
theorem dX4_addClient_7 : decode cX4_addClient 7 = .ok (.invokevirtual 86, 3) := by decide +kernel
theorem dX4_addClient_10 : decode cX4_addClient 10 = .ok (.ifCond .ne 9, 3) := by decide +kernel
theorem dX4_addClient_13 : decode cX4_addClient 13 = .ok (.aload_n 0, 1) := by decide +kernel
theorem dX4_addClient_14 : decode cX4_addClient 14 = .ok (.iconst 1, 1) := by decide +kernel
theorem dX4_addClient_15 : decode cX4_addClient 15 = .ok (.invokevirtual 76, 3) := by decide +kernel
theorem dX4_addClient_18 : decode cX4_addClient 18 = .ok (.ireturn, 1) := by decide +kernel
theorem dX4_addClient_19 : decode cX4_addClient 19 = .ok (.iload_n 2, 1) := by decide +kernel
theorem dX4_addClient_20 : decode cX4_addClient 20 = .ok (.iconst 1, 1) := by decide +kernel
theorem dX4_addClient_21 : decode cX4_addClient 21 = .ok (.bipush 20, 2) := by decide +kernel
theorem dX4_addClient_23 : decode cX4_addClient 23 = .ok (.invokestatic 71, 3) := by decide +kernel
theorem dX4_addClient_26 : decode cX4_addClient 26 = .ok (.ifCond .ne 9, 3) := by decide +kernel
theorem dX4_addClient_29 : decode cX4_addClient 29 = .ok (.aload_n 0, 1) := by decide +kernel
theorem dX4_addClient_30 : decode cX4_addClient 30 = .ok (.iconst 2, 1) := by decide +kernel
theorem dX4_addClient_31 : decode cX4_addClient 31 = .ok (.invokevirtual 76, 3) := by decide +kernel
theorem dX4_addClient_34 : decode cX4_addClient 34 = .ok (.ireturn, 1) := by decide +kernel
theorem dX4_addClient_35 : decode cX4_addClient 35 = .ok (.aload_n 0, 1) := by decide +kernel
theorem dX4_addClient_36 : decode cX4_addClient 36 = .ok (.iload_n 1, 1) := by decide +kernel
theorem dX4_addClient_37 : decode cX4_addClient 37 = .ok (.invokevirtual 90, 3) := by decide +kernel
theorem dX4_addClient_40 : decode cX4_addClient 40 = .ok (.ifCond .eq 12, 3) := by decide +kernel
theorem dX4_addClient_43 : decode cX4_addClient 43 = .ok (.aload_n 0, 1) := by decide +kernel
theorem dX4_addClient_44 : decode cX4_addClient 44 = .ok (.iload_n 1, 1) := by decide +kernel
theorem dX4_addClient_45 : decode cX4_addClient 45 = .ok (.invokevirtual 93, 3) := by decide +kernel
theorem dX4_addClient_48 : decode cX4_addClient 48 = .ok (.iload_n 2, 1) := by decide +kernel
theorem dX4_addClient_49 : decode cX4_addClient 49 = .ok (.if_icmp .ge 9, 3) := by decide +kernel
theorem dX4_addClient_52 : decode cX4_addClient 52 = .ok (.aload_n 0, 1) := by decide +kernel
theorem dX4_addClient_53 : decode cX4_addClient 53 = .ok (.iconst 3, 1) := by decide +kernel
theorem dX4_addClient_54 : decode cX4_addClient 54 = .ok (.invokevirtual 76, 3) := by decide +kernel
theorem dX4_addClient_57 : decode cX4_addClient 57 = .ok (.ireturn, 1) := by decide +kernel
theorem dX4_addClient_58 : decode cX4_addClient 58 = .ok (.aload_n 0, 1) := by decide +kernel
theorem dX4_addClient_59 : decode cX4_addClient 59 = .ok (.getfield 37, 3) := by decide +kernel
theorem dX4_addClient_62 : decode cX4_addClient 62 = .ok (.aload_n 0, 1) := by decide +kernel
theorem dX4_addClient_63 : decode cX4_addClient 63 = .ok (.getfield 80, 3) := by decide +kernel
theorem dX4_addClient_66 : decode cX4_addClient 66 = .ok (.iload_n 1, 1) := by decide +kernel
theorem dX4_addClient_67 : decode cX4_addClient 67 = .ok (.iastore, 1) := by decide +kernel
theorem dX4_addClient_68 : decode cX4_addClient 68 = .ok (.aload_n 0, 1) := by decide +kernel
theorem dX4_addClient_69 : decode cX4_addClient 69 = .ok (.getfield 40, 3) := by decide +kernel
theorem dX4_addClient_72 : decode cX4_addClient 72 = .ok (.aload_n 0, 1) := by decide +kernel
theorem dX4_addClient_73 : decode cX4_addClient 73 = .ok (.getfield 80, 3) := by decide +kernel
theorem dX4_addClient_76 : decode cX4_addClient 76 = .ok (.iload_n 2, 1) := by decide +kernel
theorem dX4_addClient_77 : decode cX4_addClient 77 = .ok (.iastore, 1) := by decide +kernel
theorem dX4_addClient_78 : decode cX4_addClient 78 = .ok (.aload_n 0, 1) := by decide +kernel
theorem dX4_addClient_79 : decode cX4_addClient 79 = .ok (.getfield 43, 3) := by decide +kernel
theorem dX4_addClient_82 : decode cX4_addClient 82 = .ok (.aload_n 0, 1) := by decide +kernel
theorem dX4_addClient_83 : decode cX4_addClient 83 = .ok (.getfield 80, 3) := by decide +kernel
theorem dX4_addClient_86 : decode cX4_addClient 86 = .ok (.aload_n 0, 1) := by decide +kernel
theorem dX4_addClient_87 : decode cX4_addClient 87 = .ok (.getfield 96, 3) := by decide +kernel
theorem dX4_addClient_90 : decode cX4_addClient 90 = .ok (.iastore, 1) := by decide +kernel
theorem dX4_addClient_91 : decode cX4_addClient 91 = .ok (.aload_n 0, 1) := by decide +kernel
theorem dX4_addClient_92 : decode cX4_addClient 92 = .ok (.dup, 1) := by decide +kernel
theorem dX4_addClient_93 : decode cX4_addClient 93 = .ok (.getfield 96, 3) := by decide +kernel
theorem dX4_addClient_96 : decode cX4_addClient 96 = .ok (.iconst 1, 1) := by decide +kernel
theorem dX4_addClient_97 : decode cX4_addClient 97 = .ok (.iadd, 1) := by decide +kernel
theorem dX4_addClient_98 : decode cX4_addClient 98 = .ok (.putfield 96, 3) := by decide +kernel
theorem dX4_addClient_101 : decode cX4_addClient 101 = .ok (.aload_n 0, 1) := by decide +kernel
theorem dX4_addClient_102 : decode cX4_addClient 102 = .ok (.dup, 1) := by decide +kernel
theorem dX4_addClient_103 : decode cX4_addClient 103 = .ok (.getfield 80, 3) := by decide +kernel
theorem dX4_addClient_106 : decode cX4_addClient 106 = .ok (.iconst 1, 1) := by decide +kernel
theorem dX4_addClient_107 : decode cX4_addClient 107 = .ok (.iadd, 1) := by decide +kernel
theorem dX4_addClient_108 : decode cX4_addClient 108 = .ok (.putfield 80, 3) := by decide +kernel
theorem dX4_addClient_111 : decode cX4_addClient 111 = .ok (.aload_n 0, 1) := by decide +kernel
theorem dX4_addClient_112 : decode cX4_addClient 112 = .ok (.iload_n 1, 1) := by decide +kernel
theorem dX4_addClient_113 : decode cX4_addClient 113 = .ok (.invokevirtual 93, 3) := by decide +kernel
theorem dX4_addClient_116 : decode cX4_addClient 116 = .ok (.ireturn, 1) := by decide +kernel
set_option maxRecDepth 20000 in
theorem ggX4_setGain_X4_isMember : GoodIn wsX4_setGain wsX4_isMember := goodIn_r _ [8, 9, 10, 11, 7, 12, 22, 23, 24, 25, 26, 27, 28, 29, 30, 31, 32, 33, 34, 35, 36, 37, 38, 39, 40, 41, 42, 43, 44, 45, 46, 47] (by decide +kernel) (by decide +kernel)
set_option maxRecDepth 20000 in
theorem gX4_setGain_X4_isMember : GoodIn wsX4_setGain (wsV RX4 86 RX4 yX4_isMember wsX4_isMember) := goodIn_app (goodIn_of _ (by decide +kernel)) ggX4_setGain_X4_isMember
set_option maxRecDepth 20000 in
theorem ggX4_setGain_X4_fails : GoodIn wsX4_setGain wsX4_fails := goodIn_r _ [16, 1, 22, 23, 24, 25, 26, 27, 28, 29, 30, 31, 32, 33, 34, 35, 36, 37, 38, 39, 40, 41, 42, 43, 44, 45, 46, 47] (by decide +kernel) (by decide +kernel)
set_option maxRecDepth 20000 in
theorem gX4_setGain_X4_fails : GoodIn wsX4_setGain (wsV RX4 76 RX4 yX4_fails wsX4_fails) := goodIn_app (goodIn_of _ (by decide +kernel)) ggX4_setGain_X4_fails
set_option maxRecDepth 20000 in
theorem ggX4_setGain_X4_in : GoodIn wsX4_setGain wsX4_in := goodIn_r _ [12] (by decide +kernel) (by decide +kernel)
set_option maxRecDepth 20000 in
theorem gX4_setGain_X4_in : GoodIn wsX4_setGain (va_wsS RX4 71 yX4_in wsX4_in) := goodIn_app (goodIn_of _ (by decide +kernel)) ggX4_setGain_X4_in
set_option maxRecDepth 20000 in
theorem ggX4_setGain_X4_isActive : GoodIn wsX4_setGain wsX4_isActive := goodIn_r _ [20, 21, 22, 23, 24, 25, 26, 27, 28, 29, 30, 31, 32, 33, 34, 35, 36, 37, 38, 39, 40, 41, 42, 43, 44, 45, 46, 47] (by decide +kernel) (by decide +kernel)
set_option maxRecDepth 20000 in
theorem gX4_setGain_X4_isActive : GoodIn wsX4_setGain (wsV RX4 90 RX4 yX4_isActive wsX4_isActive) := goodIn_app (goodIn_of _ (by decide +kernel)) ggX4_setGain_X4_isActive
theorem dX4_setGain_0 : decode cX4_setGain 0 = .ok (.aload_n 0, 1) := by decide +kernel
theorem dX4_setGain_1 : decode cX4_setGain 1 = .ok (.iconst 0, 1) := by decide +kernel
theorem dX4_setGain_2 : decode cX4_setGain 2 = .ok (.putfield 65, 3) := by decide +kernel
theorem dX4_setGain_5 : decode cX4_setGain 5 = .ok (.aload_n 0, 1) := by decide +kernel
theorem dX4_setGain_6 : decode cX4_setGain 6 = .ok (.iload_n 1, 1) := by decide +kernel
theorem dX4_setGain_7 : decode cX4_setGain 7 = .ok (.invokevirtual 86, 3) := by decide +kernel
theorem dX4_setGain_10 : decode cX4_setGain 10 = .ok (.ifCond .ne 9, 3) := by decide +kernel
theorem dX4_setGain_13 : decode cX4_setGain 13 = .ok (.aload_n 0, 1) := by decide +kernel
theorem dX4_setGain_14 : decode cX4_setGain 14 = .ok (.iconst 1, 1) := by decide +kernel
theorem dX4_setGain_15 : decode cX4_setGain 15 = .ok (.invokevirtual 76, 3) := by decide +kernel
theorem dX4_setGain_18 : decode cX4_setGain 18 = .ok (.ireturn, 1) := by decide +kernel
theorem dX4_setGain_19 : decode cX4_setGain 19 = .ok (.iload_n 2, 1) := by decide +kernel
theorem dX4_setGain_20 : decode cX4_setGain 20 = .ok (.iconst 0, 1) := by decide +kernel
theorem dX4_setGain_21 : decode cX4_setGain 21 = .ok (.ldc 75, 2) := by decide +kernel
theorem dX4_setGain_23 : decode cX4_setGain 23 = .ok (.invokestatic 71, 3) := by decide +kernel
theorem dX4_setGain_26 : decode cX4_setGain 26 = .ok (.ifCond .ne 9, 3) := by decide +kernel
theorem dX4_setGain_29 : decode cX4_setGain 29 = .ok (.aload_n 0, 1) := by decide +kernel
theorem dX4_setGain_30 : decode cX4_setGain 30 = .ok (.iconst 2, 1) := by decide +kernel
theorem dX4_setGain_31 : decode cX4_setGain 31 = .ok (.invokevirtual 76, 3) := by decide +kernel
theorem dX4_setGain_34 : decode cX4_setGain 34 = .ok (.ireturn, 1) := by decide +kernel
theorem dX4_setGain_35 : decode cX4_setGain 35 = .ok (.aload_n 0, 1) := by decide +kernel
theorem dX4_setGain_36 : decode cX4_setGain 36 = .ok (.iload_n 1, 1) := by decide +kernel
theorem dX4_setGain_37 : decode cX4_setGain 37 = .ok (.invokevirtual 90, 3) := by decide +kernel
theorem dX4_setGain_40 : decode cX4_setGain 40 = .ok (.ifCond .ne 9, 3) := by decide +kernel
theorem dX4_setGain_43 : decode cX4_setGain 43 = .ok (.aload_n 0, 1) := by decide +kernel
theorem dX4_setGain_44 : decode cX4_setGain 44 = .ok (.iconst 3, 1) := by decide +kernel
theorem dX4_setGain_45 : decode cX4_setGain 45 = .ok (.invokevirtual 76, 3) := by decide +kernel
theorem dX4_setGain_48 : decode cX4_setGain 48 = .ok (.ireturn, 1) := by decide +kernel
theorem dX4_setGain_49 : decode cX4_setGain 49 = .ok (.aload_n 0, 1) := by decide +kernel
theorem dX4_setGain_50 : decode cX4_setGain 50 = .ok (.getfield 19, 3) := by decide +kernel
theorem dX4_setGain_53 : decode cX4_setGain 53 = .ok (.iload_n 1, 1) := by decide +kernel
theorem dX4_setGain_54 : decode cX4_setGain 54 = .ok (.iaload, 1) := by decide +kernel
theorem dX4_setGain_55 : decode cX4_setGain 55 = .ok (.istore_n 3, 1) := by decide +kernel
theorem dX4_setGain_56 : decode cX4_setGain 56 = .ok (.aload_n 0, 1) := by decide +kernel
theorem dX4_setGain_57 : decode cX4_setGain 57 = .ok (.getfield 19, 3) := by decide +kernel
theorem dX4_setGain_60 : decode cX4_setGain 60 = .ok (.iload_n 1, 1) := by decide +kernel
theorem dX4_setGain_61 : decode cX4_setGain 61 = .ok (.iload_n 2, 1) := by decide +kernel
theorem dX4_setGain_62 : decode cX4_setGain 62 = .ok (.iastore, 1) := by decide +kernel
theorem dX4_setGain_63 : decode cX4_setGain 63 = .ok (.iload_n 3, 1) := by decide +kernel
theorem dX4_setGain_64 : decode cX4_setGain 64 = .ok (.ireturn, 1) := by decide +kernel
set_option maxRecDepth 20000 in
theorem ggX4_setTested_X4_isMember : GoodIn wsX4_setTested wsX4_isMember := goodIn_r _ [8, 9, 10, 11, 7, 12, 22, 23, 24, 25, 26, 27, 28, 29, 30, 31, 32, 33, 34, 35, 36, 37, 38, 39, 40, 41, 42, 43, 44, 45, 46, 47] (by decide +kernel) (by decide +kernel)
set_option maxRecDepth 20000 in
theorem gX4_setTested_X4_isMember : GoodIn wsX4_setTested (wsV RX4 86 RX4 yX4_isMember wsX4_isMember) := goodIn_app (goodIn_of _ (by decide +kernel)) ggX4_setTested_X4_isMember
set_option maxRecDepth 20000 in
theorem ggX4_setTested_X4_fails : GoodIn wsX4_setTested wsX4_fails := goodIn_r _ [16, 1, 22, 23, 24, 25, 26, 27, 28, 29, 30, 31, 32, 33, 34, 35, 36, 37, 38, 39, 40, 41, 42, 43, 44, 45, 46, 47] (by decide +kernel) (by decide +kernel)
set_option maxRecDepth 20000 in
theorem gX4_setTested_X4_fails : GoodIn wsX4_setTested (wsV RX4 76 RX4 yX4_fails wsX4_fails) := goodIn_app (goodIn_of _ (by decide +kernel)) ggX4_setTested_X4_fails
set_option maxRecDepth 20000 in
theorem ggX4_setTested_X4_in : GoodIn wsX4_setTested wsX4_in := goodIn_r _ [12] (by decide +kernel) (by decide +kernel)
set_option maxRecDepth 20000 in
theorem gX4_setTested_X4_in : GoodIn wsX4_setTested (va_wsS RX4 71 yX4_in wsX4_in) := goodIn_app (goodIn_of _ (by decide +kernel)) ggX4_setTested_X4_in
set_option maxRecDepth 20000 in
theorem ggX4_setTested_X4_isActive : GoodIn wsX4_setTested wsX4_isActive := goodIn_r _ [20, 21, 22, 23, 24, 25, 26, 27, 28, 29, 30, 31, 32, 33, 34, 35, 36, 37, 38, 39, 40, 41, 42, 43, 44, 45, 46, 47] (by decide +kernel) (by decide +kernel)
set_option maxRecDepth 20000 in
theorem gX4_setTested_X4_isActive : GoodIn wsX4_setTested (wsV RX4 90 RX4 yX4_isActive wsX4_isActive) := goodIn_app (goodIn_of _ (by decide +kernel)) ggX4_setTested_X4_isActive
theorem dX4_setTested_0 : decode cX4_setTested 0 = .ok (.aload_n 0, 1) := by decide +kernel
theorem dX4_setTested_1 : decode cX4_setTested 1 = .ok (.iconst 0, 1) := by decide +kernel
theorem dX4_setTested_2 : decode cX4_setTested 2 = .ok (.putfield 65, 3) := by decide +kernel
theorem dX4_setTested_5 : decode cX4_setTested 5 = .ok (.aload_n 0, 1) := by decide +kernel
theorem dX4_setTested_6 : decode cX4_setTested 6 = .ok (.iload_n 1, 1) := by decide +kernel
theorem dX4_setTested_7 : decode cX4_setTested 7 = .ok (.invokevirtual 86, 3) := by decide +kernel
theorem dX4_setTested_10 : decode cX4_setTested 10 = .ok (.ifCond .ne 9, 3) := by decide +kernel
theorem dX4_setTested_13 : decode cX4_setTested 13 = .ok (.aload_n 0, 1) := by decide +kernel
theorem dX4_setTested_14 : decode cX4_setTested 14 = .ok (.iconst 1, 1) := by decide +kernel
theorem dX4_setTested_15 : decode cX4_setTested 15 = .ok (.invokevirtual 76, 3) := by decide +kernel
theorem dX4_setTested_18 : decode cX4_setTested 18 = .ok (.ireturn, 1) := by decide +kernel
theorem dX4_setTested_19 : decode cX4_setTested 19 = .ok (.iload_n 2, 1) := by decide +kernel
theorem dX4_setTested_20 : decode cX4_setTested 20 = .ok (.iconst 0, 1) := by decide +kernel
theorem dX4_setTested_21 : decode cX4_setTested 21 = .ok (.ldc 75, 2) := by decide +kernel
theorem dX4_setTested_23 : decode cX4_setTested 23 = .ok (.invokestatic 71, 3) := by decide +kernel
theorem dX4_setTested_26 : decode cX4_setTested 26 = .ok (.ifCond .ne 9, 3) := by decide +kernel
theorem dX4_setTested_29 : decode cX4_setTested 29 = .ok (.aload_n 0, 1) := by decide +kernel
theorem dX4_setTested_30 : decode cX4_setTested 30 = .ok (.iconst 2, 1) := by decide +kernel
theorem dX4_setTested_31 : decode cX4_setTested 31 = .ok (.invokevirtual 76, 3) := by decide +kernel
theorem dX4_setTested_34 : decode cX4_setTested 34 = .ok (.ireturn, 1) := by decide +kernel
theorem dX4_setTested_35 : decode cX4_setTested 35 = .ok (.aload_n 0, 1) := by decide +kernel
theorem dX4_setTested_36 : decode cX4_setTested 36 = .ok (.iload_n 1, 1) := by decide +kernel
theorem dX4_setTested_37 : decode cX4_setTested 37 = .ok (.invokevirtual 90, 3) := by decide +kernel
theorem dX4_setTested_40 : decode cX4_setTested 40 = .ok (.ifCond .ne 9, 3) := by decide +kernel
theorem dX4_setTested_43 : decode cX4_setTested 43 = .ok (.aload_n 0, 1) := by decide +kernel
theorem dX4_setTested_44 : decode cX4_setTested 44 = .ok (.iconst 3, 1) := by decide +kernel
theorem dX4_setTested_45 : decode cX4_setTested 45 = .ok (.invokevirtual 76, 3) := by decide +kernel
theorem dX4_setTested_48 : decode cX4_setTested 48 = .ok (.ireturn, 1) := by decide +kernel
theorem dX4_setTested_49 : decode cX4_setTested 49 = .ok (.aload_n 0, 1) := by decide +kernel
theorem dX4_setTested_50 : decode cX4_setTested 50 = .ok (.getfield 22, 3) := by decide +kernel
theorem dX4_setTested_53 : decode cX4_setTested 53 = .ok (.iload_n 1, 1) := by decide +kernel
theorem dX4_setTested_54 : decode cX4_setTested 54 = .ok (.iaload, 1) := by decide +kernel
theorem dX4_setTested_55 : decode cX4_setTested 55 = .ok (.istore_n 3, 1) := by decide +kernel
theorem dX4_setTested_56 : decode cX4_setTested 56 = .ok (.aload_n 0, 1) := by decide +kernel
theorem dX4_setTested_57 : decode cX4_setTested 57 = .ok (.getfield 22, 3) := by decide +kernel
theorem dX4_setTested_60 : decode cX4_setTested 60 = .ok (.iload_n 1, 1) := by decide +kernel
theorem dX4_setTested_61 : decode cX4_setTested 61 = .ok (.iload_n 2, 1) := by decide +kernel
theorem dX4_setTested_62 : decode cX4_setTested 62 = .ok (.iastore, 1) := by decide +kernel
theorem dX4_setTested_63 : decode cX4_setTested 63 = .ok (.iload_n 3, 1) := by decide +kernel
theorem dX4_setTested_64 : decode cX4_setTested 64 = .ok (.ireturn, 1) := by decide +kernel
set_option maxRecDepth 20000 in
theorem ggX4_setCapital_X4_in : GoodIn wsX4_setCapital wsX4_in := goodIn_r _ [7] (by decide +kernel) (by decide +kernel)
set_option maxRecDepth 20000 in
theorem gX4_setCapital_X4_in : GoodIn wsX4_setCapital (va_wsS RX4 71 yX4_in wsX4_in) := goodIn_app (goodIn_of _ (by decide +kernel)) ggX4_setCapital_X4_in
set_option maxRecDepth 20000 in
theorem ggX4_setCapital_X4_fails : GoodIn wsX4_setCapital wsX4_fails := goodIn_r _ [11, 1, 12, 13, 14, 15, 16, 17, 18, 19, 20, 21, 22, 23, 24, 25, 26, 27, 28, 29, 30, 31, 32, 33, 34, 35, 36, 37] (by decide +kernel) (by decide +kernel)
set_option maxRecDepth 20000 in
theorem gX4_setCapital_X4_fails : GoodIn wsX4_setCapital (wsV RX4 76 RX4 yX4_fails wsX4_fails) := goodIn_app (goodIn_of _ (by decide +kernel)) ggX4_setCapital_X4_fails
theorem dX4_setCapital_0 : decode cX4_setCapital 0 = .ok (.aload_n 0, 1) := by decide +kernel
theorem dX4_setCapital_1 : decode cX4_setCapital 1 = .ok (.iconst 0, 1) := by decide +kernel
theorem dX4_setCapital_2 : decode cX4_setCapital 2 = .ok (.putfield 65, 3) := by decide +kernel
theorem dX4_setCapital_5 : decode cX4_setCapital 5 = .ok (.iload_n 1, 1) := by decide +kernel
theorem dX4_setCapital_6 : decode cX4_setCapital 6 = .ok (.iconst 0, 1) := by decide +kernel
theorem dX4_setCapital_7 : decode cX4_setCapital 7 = .ok (.ldc 75, 2) := by decide +kernel
theorem dX4_setCapital_9 : decode cX4_setCapital 9 = .ok (.invokestatic 71, 3) := by decide +kernel
theorem dX4_setCapital_12 : decode cX4_setCapital 12 = .ok (.ifCond .ne 9, 3) := by decide +kernel
theorem dX4_setCapital_15 : decode cX4_setCapital 15 = .ok (.aload_n 0, 1) := by decide +kernel
theorem dX4_setCapital_16 : decode cX4_setCapital 16 = .ok (.iconst 1, 1) := by decide +kernel
theorem dX4_setCapital_17 : decode cX4_setCapital 17 = .ok (.invokevirtual 76, 3) := by decide +kernel
theorem dX4_setCapital_20 : decode cX4_setCapital 20 = .ok (.ireturn, 1) := by decide +kernel
theorem dX4_setCapital_21 : decode cX4_setCapital 21 = .ok (.aload_n 0, 1) := by decide +kernel
theorem dX4_setCapital_22 : decode cX4_setCapital 22 = .ok (.getfield 99, 3) := by decide +kernel
theorem dX4_setCapital_25 : decode cX4_setCapital 25 = .ok (.istore_n 2, 1) := by decide +kernel
theorem dX4_setCapital_26 : decode cX4_setCapital 26 = .ok (.aload_n 0, 1) := by decide +kernel
theorem dX4_setCapital_27 : decode cX4_setCapital 27 = .ok (.iload_n 1, 1) := by decide +kernel
theorem dX4_setCapital_28 : decode cX4_setCapital 28 = .ok (.putfield 99, 3) := by decide +kernel
theorem dX4_setCapital_31 : decode cX4_setCapital 31 = .ok (.iload_n 2, 1) := by decide +kernel
theorem dX4_setCapital_32 : decode cX4_setCapital 32 = .ok (.ireturn, 1) := by decide +kernel
set_option maxRecDepth 20000 in
theorem ggX4_giveNotice_X4_isMember : GoodIn wsX4_giveNotice wsX4_isMember := goodIn_r _ [8, 9, 10, 11, 7, 12, 17, 18, 19, 20, 21, 22, 23, 24, 25, 26, 27, 28, 29, 30, 31, 32, 33, 34, 35, 36, 37, 38, 39, 40, 41, 42] (by decide +kernel) (by decide +kernel)
set_option maxRecDepth 20000 in
theorem gX4_giveNotice_X4_isMember : GoodIn wsX4_giveNotice (wsV RX4 86 RX4 yX4_isMember wsX4_isMember) := goodIn_app (goodIn_of _ (by decide +kernel)) ggX4_giveNotice_X4_isMember
set_option maxRecDepth 20000 in
theorem ggX4_giveNotice_X4_fails : GoodIn wsX4_giveNotice wsX4_fails := goodIn_r _ [16, 1, 17, 18, 19, 20, 21, 22, 23, 24, 25, 26, 27, 28, 29, 30, 31, 32, 33, 34, 35, 36, 37, 38, 39, 40, 41, 42] (by decide +kernel) (by decide +kernel)
set_option maxRecDepth 20000 in
theorem gX4_giveNotice_X4_fails : GoodIn wsX4_giveNotice (wsV RX4 76 RX4 yX4_fails wsX4_fails) := goodIn_app (goodIn_of _ (by decide +kernel)) ggX4_giveNotice_X4_fails
theorem dX4_giveNotice_0 : decode cX4_giveNotice 0 = .ok (.aload_n 0, 1) := by decide +kernel
theorem dX4_giveNotice_1 : decode cX4_giveNotice 1 = .ok (.iconst 0, 1) := by decide +kernel
theorem dX4_giveNotice_2 : decode cX4_giveNotice 2 = .ok (.putfield 65, 3) := by decide +kernel
theorem dX4_giveNotice_5 : decode cX4_giveNotice 5 = .ok (.aload_n 0, 1) := by decide +kernel
theorem dX4_giveNotice_6 : decode cX4_giveNotice 6 = .ok (.iload_n 1, 1) := by decide +kernel
theorem dX4_giveNotice_7 : decode cX4_giveNotice 7 = .ok (.invokevirtual 86, 3) := by decide +kernel
theorem dX4_giveNotice_10 : decode cX4_giveNotice 10 = .ok (.ifCond .ne 10, 3) := by decide +kernel
theorem dX4_giveNotice_13 : decode cX4_giveNotice 13 = .ok (.aload_n 0, 1) := by decide +kernel
theorem dX4_giveNotice_14 : decode cX4_giveNotice 14 = .ok (.iconst 1, 1) := by decide +kernel
theorem dX4_giveNotice_15 : decode cX4_giveNotice 15 = .ok (.invokevirtual 76, 3) := by decide +kernel
theorem dX4_giveNotice_18 : decode cX4_giveNotice 18 = .ok (.pop, 1) := by decide +kernel
theorem dX4_giveNotice_19 : decode cX4_giveNotice 19 = .ok (.return_, 1) := by decide +kernel
theorem dX4_giveNotice_20 : decode cX4_giveNotice 20 = .ok (.aload_n 0, 1) := by decide +kernel
theorem dX4_giveNotice_21 : decode cX4_giveNotice 21 = .ok (.getfield 25, 3) := by decide +kernel
theorem dX4_giveNotice_24 : decode cX4_giveNotice 24 = .ok (.iload_n 1, 1) := by decide +kernel
theorem dX4_giveNotice_25 : decode cX4_giveNotice 25 = .ok (.iaload, 1) := by decide +kernel
theorem dX4_giveNotice_26 : decode cX4_giveNotice 26 = .ok (.ifCond .ne 11, 3) := by decide +kernel
theorem dX4_giveNotice_29 : decode cX4_giveNotice 29 = .ok (.aload_n 0, 1) := by decide +kernel
theorem dX4_giveNotice_30 : decode cX4_giveNotice 30 = .ok (.getfield 46, 3) := by decide +kernel
theorem dX4_giveNotice_33 : decode cX4_giveNotice 33 = .ok (.iconst (-1), 1) := by decide +kernel
theorem dX4_giveNotice_34 : decode cX4_giveNotice 34 = .ok (.if_icmp .eq 10, 3) := by decide +kernel
theorem dX4_giveNotice_37 : decode cX4_giveNotice 37 = .ok (.aload_n 0, 1) := by decide +kernel
theorem dX4_giveNotice_38 : decode cX4_giveNotice 38 = .ok (.iconst 2, 1) := by decide +kernel
theorem dX4_giveNotice_39 : decode cX4_giveNotice 39 = .ok (.invokevirtual 76, 3) := by decide +kernel
theorem dX4_giveNotice_42 : decode cX4_giveNotice 42 = .ok (.pop, 1) := by decide +kernel
theorem dX4_giveNotice_43 : decode cX4_giveNotice 43 = .ok (.return_, 1) := by decide +kernel
theorem dX4_giveNotice_44 : decode cX4_giveNotice 44 = .ok (.aload_n 0, 1) := by decide +kernel
theorem dX4_giveNotice_45 : decode cX4_giveNotice 45 = .ok (.getfield 25, 3) := by decide +kernel
theorem dX4_giveNotice_48 : decode cX4_giveNotice 48 = .ok (.iload_n 1, 1) := by decide +kernel
theorem dX4_giveNotice_49 : decode cX4_giveNotice 49 = .ok (.iconst 1, 1) := by decide +kernel
theorem dX4_giveNotice_50 : decode cX4_giveNotice 50 = .ok (.iastore, 1) := by decide +kernel
theorem dX4_giveNotice_51 : decode cX4_giveNotice 51 = .ok (.return_, 1) := by decide +kernel
theorem dX4_part_0 : decode cX4_part 0 = .ok (.lconst 0, 1) := by decide +kernel
theorem dX4_part_1 : decode cX4_part 1 = .ok (.lstore_n 3, 1) := by decide +kernel
theorem dX4_part_2 : decode cX4_part 2 = .ok (.lconst 0, 1) := by decide +kernel
theorem dX4_part_3 : decode cX4_part 3 = .ok (.lstore 5, 2) := by decide +kernel
theorem dX4_part_5 : decode cX4_part 5 = .ok (.iconst 0, 1) := by decide +kernel
theorem dX4_part_6 : decode cX4_part 6 = .ok (.istore 7, 2) := by decide +kernel
theorem dX4_part_8 : decode cX4_part 8 = .ok (.iload 7, 2) := by decide +kernel
theorem dX4_part_10 : decode cX4_part 10 = .ok (.aload_n 0, 1) := by decide +kernel
theorem dX4_part_11 : decode cX4_part 11 = .ok (.getfield 68, 3) := by decide +kernel
theorem dX4_part_14 : decode cX4_part 14 = .ok (.if_icmp .ge 55, 3) := by decide +kernel
theorem dX4_part_17 : decode cX4_part 17 = .ok (.lload_n 3, 1) := by decide +kernel
theorem dX4_part_18 : decode cX4_part 18 = .ok (.aload_n 0, 1) := by decide +kernel
theorem dX4_part_19 : decode cX4_part 19 = .ok (.getfield 56, 3) := by decide +kernel
theorem dX4_part_22 : decode cX4_part 22 = .ok (.iload 7, 2) := by decide +kernel
theorem dX4_part_24 : decode cX4_part 24 = .ok (.iaload, 1) := by decide +kernel
theorem dX4_part_25 : decode cX4_part 25 = .ok (.i2l, 1) := by decide +kernel
theorem dX4_part_26 : decode cX4_part 26 = .ok (.ladd, 1) := by decide +kernel
theorem dX4_part_27 : decode cX4_part 27 = .ok (.lstore_n 3, 1) := by decide +kernel
theorem dX4_part_28 : decode cX4_part 28 = .ok (.lload 5, 2) := by decide +kernel
theorem dX4_part_30 : decode cX4_part 30 = .ok (.aload_n 0, 1) := by decide +kernel
theorem dX4_part_31 : decode cX4_part 31 = .ok (.getfield 56, 3) := by decide +kernel
theorem dX4_part_34 : decode cX4_part 34 = .ok (.iload 7, 2) := by decide +kernel
theorem dX4_part_36 : decode cX4_part 36 = .ok (.iaload, 1) := by decide +kernel
theorem dX4_part_37 : decode cX4_part 37 = .ok (.ifCond .le 14, 3) := by decide +kernel
theorem dX4_part_40 : decode cX4_part 40 = .ok (.aload_n 0, 1) := by decide +kernel
theorem dX4_part_41 : decode cX4_part 41 = .ok (.getfield 59, 3) := by decide +kernel
theorem dX4_part_44 : decode cX4_part 44 = .ok (.iload 7, 2) := by decide +kernel
theorem dX4_part_46 : decode cX4_part 46 = .ok (.iaload, 1) := by decide +kernel
theorem dX4_part_47 : decode cX4_part 47 = .ok (.i2l, 1) := by decide +kernel
theorem dX4_part_48 : decode cX4_part 48 = .ok (.goto 4, 3) := by decide +kernel
theorem dX4_part_51 : decode cX4_part 51 = .ok (.lconst 0, 1) := by decide +kernel
theorem dX4_part_52 : decode cX4_part 52 = .ok (.ladd, 1) := by decide +kernel
theorem dX4_part_53 : decode cX4_part 53 = .ok (.lstore 5, 2) := by decide +kernel
theorem dX4_part_55 : decode cX4_part 55 = .ok (.aload_n 0, 1) := by decide +kernel
theorem dX4_part_56 : decode cX4_part 56 = .ok (.getfield 62, 3) := by decide +kernel
theorem dX4_part_59 : decode cX4_part 59 = .ok (.iload 7, 2) := by decide +kernel
theorem dX4_part_61 : decode cX4_part 61 = .ok (.iconst 0, 1) := by decide +kernel
theorem dX4_part_62 : decode cX4_part 62 = .ok (.iastore, 1) := by decide +kernel
theorem dX4_part_63 : decode cX4_part 63 = .ok (.iinc 7 1, 3) := by decide +kernel
theorem dX4_part_66 : decode cX4_part 66 = .ok (.goto (-58), 3) := by decide +kernel
theorem dX4_part_69 : decode cX4_part 69 = .ok (.lload_n 1, 1) := by decide +kernel
theorem dX4_part_70 : decode cX4_part 70 = .ok (.lload 5, 2) := by decide +kernel
theorem dX4_part_72 : decode cX4_part 72 = .ok (.lcmp, 1) := by decide +kernel
theorem dX4_part_73 : decode cX4_part 73 = .ok (.ifCond .ge 7, 3) := by decide +kernel
theorem dX4_part_76 : decode cX4_part 76 = .ok (.lload_n 1, 1) := by decide +kernel
theorem dX4_part_77 : decode cX4_part 77 = .ok (.goto 5, 3) := by decide +kernel
theorem dX4_part_80 : decode cX4_part 80 = .ok (.lload 5, 2) := by decide +kernel
theorem dX4_part_82 : decode cX4_part 82 = .ok (.lstore 7, 2) := by decide +kernel
theorem dX4_part_84 : decode cX4_part 84 = .ok (.lload 7, 2) := by decide +kernel
theorem dX4_part_86 : decode cX4_part 86 = .ok (.lstore 9, 2) := by decide +kernel
theorem dX4_part_88 : decode cX4_part 88 = .ok (.iconst 0, 1) := by decide +kernel
theorem dX4_part_89 : decode cX4_part 89 = .ok (.istore 11, 2) := by decide +kernel
theorem dX4_part_91 : decode cX4_part 91 = .ok (.iload 11, 2) := by decide +kernel
theorem dX4_part_93 : decode cX4_part 93 = .ok (.aload_n 0, 1) := by decide +kernel
theorem dX4_part_94 : decode cX4_part 94 = .ok (.getfield 68, 3) := by decide +kernel
theorem dX4_part_97 : decode cX4_part 97 = .ok (.if_icmp .ge 78, 3) := by decide +kernel
theorem dX4_part_100 : decode cX4_part 100 = .ok (.lload_n 3, 1) := by decide +kernel
theorem dX4_part_101 : decode cX4_part 101 = .ok (.lconst 0, 1) := by decide +kernel
theorem dX4_part_102 : decode cX4_part 102 = .ok (.lcmp, 1) := by decide +kernel
theorem dX4_part_103 : decode cX4_part 103 = .ok (.ifCond .le 72, 3) := by decide +kernel
theorem dX4_part_106 : decode cX4_part 106 = .ok (.lload 9, 2) := by decide +kernel
theorem dX4_part_108 : decode cX4_part 108 = .ok (.aload_n 0, 1) := by decide +kernel
theorem dX4_part_109 : decode cX4_part 109 = .ok (.getfield 56, 3) := by decide +kernel
theorem dX4_part_112 : decode cX4_part 112 = .ok (.iload 11, 2) := by decide +kernel
theorem dX4_part_114 : decode cX4_part 114 = .ok (.iaload, 1) := by decide +kernel
theorem dX4_part_115 : decode cX4_part 115 = .ok (.i2l, 1) := by decide +kernel
theorem dX4_part_116 : decode cX4_part 116 = .ok (.lmul, 1) := by decide +kernel
theorem dX4_part_117 : decode cX4_part 117 = .ok (.lload_n 3, 1) := by decide +kernel
theorem dX4_part_118 : decode cX4_part 118 = .ok (.ldiv, 1) := by decide +kernel
theorem dX4_part_119 : decode cX4_part 119 = .ok (.lstore 12, 2) := by decide +kernel
theorem dX4_part_121 : decode cX4_part 121 = .ok (.aload_n 0, 1) := by decide +kernel
theorem dX4_part_122 : decode cX4_part 122 = .ok (.getfield 62, 3) := by decide +kernel
theorem dX4_part_125 : decode cX4_part 125 = .ok (.iload 11, 2) := by decide +kernel
theorem dX4_part_127 : decode cX4_part 127 = .ok (.lload 12, 2) := by decide +kernel
theorem dX4_part_129 : decode cX4_part 129 = .ok (.aload_n 0, 1) := by decide +kernel
theorem dX4_part_130 : decode cX4_part 130 = .ok (.getfield 59, 3) := by decide +kernel
theorem dX4_part_133 : decode cX4_part 133 = .ok (.iload 11, 2) := by decide +kernel
theorem dX4_part_135 : decode cX4_part 135 = .ok (.iaload, 1) := by decide +kernel
theorem dX4_part_136 : decode cX4_part 136 = .ok (.i2l, 1) := by decide +kernel
theorem dX4_part_137 : decode cX4_part 137 = .ok (.lcmp, 1) := by decide +kernel
theorem dX4_part_138 : decode cX4_part 138 = .ok (.ifCond .ge 8, 3) := by decide +kernel
theorem dX4_part_141 : decode cX4_part 141 = .ok (.lload 12, 2) := by decide +kernel
theorem dX4_part_143 : decode cX4_part 143 = .ok (.goto 11, 3) := by decide +kernel
theorem dX4_part_146 : decode cX4_part 146 = .ok (.aload_n 0, 1) := by decide +kernel
theorem dX4_part_147 : decode cX4_part 147 = .ok (.getfield 59, 3) := by decide +kernel
theorem dX4_part_150 : decode cX4_part 150 = .ok (.iload 11, 2) := by decide +kernel
theorem dX4_part_152 : decode cX4_part 152 = .ok (.iaload, 1) := by decide +kernel
theorem dX4_part_153 : decode cX4_part 153 = .ok (.i2l, 1) := by decide +kernel
theorem dX4_part_154 : decode cX4_part 154 = .ok (.l2i, 1) := by decide +kernel
theorem dX4_part_155 : decode cX4_part 155 = .ok (.iastore, 1) := by decide +kernel
theorem dX4_part_156 : decode cX4_part 156 = .ok (.lload 7, 2) := by decide +kernel
theorem dX4_part_158 : decode cX4_part 158 = .ok (.aload_n 0, 1) := by decide +kernel
theorem dX4_part_159 : decode cX4_part 159 = .ok (.getfield 62, 3) := by decide +kernel
theorem dX4_part_162 : decode cX4_part 162 = .ok (.iload 11, 2) := by decide +kernel
theorem dX4_part_164 : decode cX4_part 164 = .ok (.iaload, 1) := by decide +kernel
theorem dX4_part_165 : decode cX4_part 165 = .ok (.i2l, 1) := by decide +kernel
theorem dX4_part_166 : decode cX4_part 166 = .ok (.lsub, 1) := by decide +kernel
theorem dX4_part_167 : decode cX4_part 167 = .ok (.lstore 7, 2) := by decide +kernel
theorem dX4_part_169 : decode cX4_part 169 = .ok (.iinc 11 1, 3) := by decide +kernel
theorem dX4_part_172 : decode cX4_part 172 = .ok (.goto (-81), 3) := by decide +kernel
theorem dX4_part_175 : decode cX4_part 175 = .ok (.lload 7, 2) := by decide +kernel
theorem dX4_part_177 : decode cX4_part 177 = .ok (.lconst 0, 1) := by decide +kernel
theorem dX4_part_178 : decode cX4_part 178 = .ok (.lcmp, 1) := by decide +kernel
theorem dX4_part_179 : decode cX4_part 179 = .ok (.ifCond .le 75, 3) := by decide +kernel
theorem dX4_part_182 : decode cX4_part 182 = .ok (.iconst 0, 1) := by decide +kernel
theorem dX4_part_183 : decode cX4_part 183 = .ok (.istore 11, 2) := by decide +kernel
theorem dX4_part_185 : decode cX4_part 185 = .ok (.iload 11, 2) := by decide +kernel
theorem dX4_part_187 : decode cX4_part 187 = .ok (.aload_n 0, 1) := by decide +kernel
theorem dX4_part_188 : decode cX4_part 188 = .ok (.getfield 68, 3) := by decide +kernel
theorem dX4_part_191 : decode cX4_part 191 = .ok (.if_icmp .ge 60, 3) := by decide +kernel
theorem dX4_part_194 : decode cX4_part 194 = .ok (.lload 7, 2) := by decide +kernel
theorem dX4_part_196 : decode cX4_part 196 = .ok (.lconst 0, 1) := by decide +kernel
theorem dX4_part_197 : decode cX4_part 197 = .ok (.lcmp, 1) := by decide +kernel
theorem dX4_part_198 : decode cX4_part 198 = .ok (.ifCond .le 47, 3) := by decide +kernel
theorem dX4_part_201 : decode cX4_part 201 = .ok (.aload_n 0, 1) := by decide +kernel
theorem dX4_part_202 : decode cX4_part 202 = .ok (.getfield 56, 3) := by decide +kernel
theorem dX4_part_205 : decode cX4_part 205 = .ok (.iload 11, 2) := by decide +kernel
theorem dX4_part_207 : decode cX4_part 207 = .ok (.iaload, 1) := by decide +kernel
theorem dX4_part_208 : decode cX4_part 208 = .ok (.ifCond .le 37, 3) := by decide +kernel
theorem dX4_part_211 : decode cX4_part 211 = .ok (.aload_n 0, 1) := by decide +kernel
theorem dX4_part_212 : decode cX4_part 212 = .ok (.getfield 62, 3) := by decide +kernel
theorem dX4_part_215 : decode cX4_part 215 = .ok (.iload 11, 2) := by decide +kernel
theorem dX4_part_217 : decode cX4_part 217 = .ok (.iaload, 1) := by decide +kernel
theorem dX4_part_218 : decode cX4_part 218 = .ok (.aload_n 0, 1) := by decide +kernel
theorem dX4_part_219 : decode cX4_part 219 = .ok (.getfield 59, 3) := by decide +kernel
theorem dX4_part_222 : decode cX4_part 222 = .ok (.iload 11, 2) := by decide +kernel
theorem dX4_part_224 : decode cX4_part 224 = .ok (.iaload, 1) := by decide +kernel
theorem dX4_part_225 : decode cX4_part 225 = .ok (.if_icmp .ge 20, 3) := by decide +kernel
theorem dX4_part_228 : decode cX4_part 228 = .ok (.aload_n 0, 1) := by decide +kernel
theorem dX4_part_229 : decode cX4_part 229 = .ok (.getfield 62, 3) := by decide +kernel
theorem dX4_part_232 : decode cX4_part 232 = .ok (.iload 11, 2) := by decide +kernel
theorem dX4_part_234 : decode cX4_part 234 = .ok (.dup2, 1) := by decide +kernel
theorem dX4_part_235 : decode cX4_part 235 = .ok (.iaload, 1) := by decide +kernel
theorem dX4_part_236 : decode cX4_part 236 = .ok (.iconst 1, 1) := by decide +kernel
theorem dX4_part_237 : decode cX4_part 237 = .ok (.iadd, 1) := by decide +kernel
theorem dX4_part_238 : decode cX4_part 238 = .ok (.iastore, 1) := by decide +kernel
theorem dX4_part_239 : decode cX4_part 239 = .ok (.lload 7, 2) := by decide +kernel
theorem dX4_part_241 : decode cX4_part 241 = .ok (.lconst 1, 1) := by decide +kernel
theorem dX4_part_242 : decode cX4_part 242 = .ok (.lsub, 1) := by decide +kernel
theorem dX4_part_243 : decode cX4_part 243 = .ok (.lstore 7, 2) := by decide +kernel
theorem dX4_part_245 : decode cX4_part 245 = .ok (.iinc 11 1, 3) := by decide +kernel
theorem dX4_part_248 : decode cX4_part 248 = .ok (.goto (-63), 3) := by decide +kernel
theorem dX4_part_251 : decode cX4_part 251 = .ok (.goto (-76), 3) := by decide +kernel
theorem dX4_part_254 : decode cX4_part 254 = .ok (.lload 9, 2) := by decide +kernel
theorem dX4_part_256 : decode cX4_part 256 = .ok (.l2i, 1) := by decide +kernel
theorem dX4_part_257 : decode cX4_part 257 = .ok (.ireturn, 1) := by decide +kernel
set_option maxRecDepth 20000 in
theorem ggX4_size_X4_fails : GoodIn wsX4_size wsX4_fails := goodIn_r _ [15, 1, 25, 26, 27, 28, 29, 30, 31, 32, 33, 34, 35, 36, 37, 38, 39, 40, 41, 42, 43, 44, 45, 46, 47, 48, 49, 50] (by decide +kernel) (by decide +kernel)
set_option maxRecDepth 20000 in
theorem gX4_size_X4_fails : GoodIn wsX4_size (wsV RX4 76 RX4 yX4_fails wsX4_fails) := goodIn_app (goodIn_of _ (by decide +kernel)) ggX4_size_X4_fails
set_option maxRecDepth 20000 in
theorem ggX4_size_X4_isActive : GoodIn wsX4_size wsX4_isActive := goodIn_r _ [19, 20, 25, 26, 27, 28, 29, 30, 31, 32, 33, 34, 35, 36, 37, 38, 39, 40, 41, 42, 43, 44, 45, 46, 47, 48, 49, 50] (by decide +kernel) (by decide +kernel)
set_option maxRecDepth 20000 in
theorem gX4_size_X4_isActive : GoodIn wsX4_size (wsV RX4 90 RX4 yX4_isActive wsX4_isActive) := goodIn_app (goodIn_of _ (by decide +kernel)) ggX4_size_X4_isActive
set_option maxRecDepth 20000 in
theorem ggX4_size_X4_part : GoodIn wsX4_size wsX4_part := goodIn_r _ [24, 3, 5, 7, 9, 25, 26, 27, 28, 29, 30, 31, 32, 33, 34, 35, 36, 37, 38, 39, 40, 41, 42, 43, 44, 45, 46, 47, 48, 49, 50] (by decide +kernel) (by decide +kernel)
set_option maxRecDepth 20000 in
theorem gX4_size_X4_part : GoodIn wsX4_size (wsV RX4 103 RX4 yX4_part wsX4_part) := goodIn_app (goodIn_of _ (by decide +kernel)) ggX4_size_X4_part
theorem dX4_size_0 : decode cX4_size 0 = .ok (.aload_n 0, 1) := by decide +kernel
theorem dX4_size_1 : decode cX4_size 1 = .ok (.iconst 0, 1) := by decide +kernel
theorem dX4_size_2 : decode cX4_size 2 = .ok (.putfield 65, 3) := by decide +kernel
theorem dX4_size_5 : decode cX4_size 5 = .ok (.aload_n 0, 1) := by decide +kernel
theorem dX4_size_6 : decode cX4_size 6 = .ok (.getfield 46, 3) := by decide +kernel
theorem dX4_size_9 : decode cX4_size 9 = .ok (.iconst (-1), 1) := by decide +kernel
theorem dX4_size_10 : decode cX4_size 10 = .ok (.if_icmp .eq 9, 3) := by decide +kernel
theorem dX4_size_13 : decode cX4_size 13 = .ok (.aload_n 0, 1) := by decide +kernel
theorem dX4_size_14 : decode cX4_size 14 = .ok (.iconst 1, 1) := by decide +kernel
theorem dX4_size_15 : decode cX4_size 15 = .ok (.invokevirtual 76, 3) := by decide +kernel
theorem dX4_size_18 : decode cX4_size 18 = .ok (.ireturn, 1) := by decide +kernel
theorem dX4_size_19 : decode cX4_size 19 = .ok (.iconst 0, 1) := by decide +kernel
theorem dX4_size_20 : decode cX4_size 20 = .ok (.istore_n 1, 1) := by decide +kernel
theorem dX4_size_21 : decode cX4_size 21 = .ok (.iconst 0, 1) := by decide +kernel
theorem dX4_size_22 : decode cX4_size 22 = .ok (.istore_n 2, 1) := by decide +kernel
theorem dX4_size_23 : decode cX4_size 23 = .ok (.iconst 0, 1) := by decide +kernel
theorem dX4_size_24 : decode cX4_size 24 = .ok (.istore_n 3, 1) := by decide +kernel
theorem dX4_size_25 : decode cX4_size 25 = .ok (.iload_n 3, 1) := by decide +kernel
theorem dX4_size_26 : decode cX4_size 26 = .ok (.aload_n 0, 1) := by decide +kernel
theorem dX4_size_27 : decode cX4_size 27 = .ok (.getfield 68, 3) := by decide +kernel
theorem dX4_size_30 : decode cX4_size 30 = .ok (.if_icmp .ge 97, 3) := by decide +kernel
theorem dX4_size_33 : decode cX4_size 33 = .ok (.aload_n 0, 1) := by decide +kernel
theorem dX4_size_34 : decode cX4_size 34 = .ok (.iload_n 3, 1) := by decide +kernel
theorem dX4_size_35 : decode cX4_size 35 = .ok (.invokevirtual 90, 3) := by decide +kernel
theorem dX4_size_38 : decode cX4_size 38 = .ok (.ifCond .eq 12, 3) := by decide +kernel
theorem dX4_size_41 : decode cX4_size 41 = .ok (.aload_n 0, 1) := by decide +kernel
theorem dX4_size_42 : decode cX4_size 42 = .ok (.getfield 22, 3) := by decide +kernel
theorem dX4_size_45 : decode cX4_size 45 = .ok (.iload_n 3, 1) := by decide +kernel
theorem dX4_size_46 : decode cX4_size 46 = .ok (.iaload, 1) := by decide +kernel
theorem dX4_size_47 : decode cX4_size 47 = .ok (.goto 4, 3) := by decide +kernel
theorem dX4_size_50 : decode cX4_size 50 = .ok (.iconst 0, 1) := by decide +kernel
theorem dX4_size_51 : decode cX4_size 51 = .ok (.istore 4, 2) := by decide +kernel
theorem dX4_size_53 : decode cX4_size 53 = .ok (.iload 4, 2) := by decide +kernel
theorem dX4_size_55 : decode cX4_size 55 = .ok (.iload_n 1, 1) := by decide +kernel
theorem dX4_size_56 : decode cX4_size 56 = .ok (.if_icmp .le 7, 3) := by decide +kernel
theorem dX4_size_59 : decode cX4_size 59 = .ok (.iload_n 1, 1) := by decide +kernel
theorem dX4_size_60 : decode cX4_size 60 = .ok (.goto 15, 3) := by decide +kernel
theorem dX4_size_63 : decode cX4_size 63 = .ok (.iload 4, 2) := by decide +kernel
theorem dX4_size_65 : decode cX4_size 65 = .ok (.iload_n 2, 1) := by decide +kernel
theorem dX4_size_66 : decode cX4_size 66 = .ok (.if_icmp .le 8, 3) := by decide +kernel
theorem dX4_size_69 : decode cX4_size 69 = .ok (.iload 4, 2) := by decide +kernel
theorem dX4_size_71 : decode cX4_size 71 = .ok (.goto 4, 3) := by decide +kernel
theorem dX4_size_74 : decode cX4_size 74 = .ok (.iload_n 2, 1) := by decide +kernel
theorem dX4_size_75 : decode cX4_size 75 = .ok (.istore_n 2, 1) := by decide +kernel
theorem dX4_size_76 : decode cX4_size 76 = .ok (.iload 4, 2) := by decide +kernel
theorem dX4_size_78 : decode cX4_size 78 = .ok (.iload_n 1, 1) := by decide +kernel
theorem dX4_size_79 : decode cX4_size 79 = .ok (.if_icmp .le 8, 3) := by decide +kernel
theorem dX4_size_82 : decode cX4_size 82 = .ok (.iload 4, 2) := by decide +kernel
theorem dX4_size_84 : decode cX4_size 84 = .ok (.goto 4, 3) := by decide +kernel
theorem dX4_size_87 : decode cX4_size 87 = .ok (.iload_n 1, 1) := by decide +kernel
theorem dX4_size_88 : decode cX4_size 88 = .ok (.istore_n 1, 1) := by decide +kernel
theorem dX4_size_89 : decode cX4_size 89 = .ok (.aload_n 0, 1) := by decide +kernel
theorem dX4_size_90 : decode cX4_size 90 = .ok (.getfield 56, 3) := by decide +kernel
theorem dX4_size_93 : decode cX4_size 93 = .ok (.iload_n 3, 1) := by decide +kernel
theorem dX4_size_94 : decode cX4_size 94 = .ok (.aload_n 0, 1) := by decide +kernel
theorem dX4_size_95 : decode cX4_size 95 = .ok (.iload_n 3, 1) := by decide +kernel
theorem dX4_size_96 : decode cX4_size 96 = .ok (.invokevirtual 90, 3) := by decide +kernel
theorem dX4_size_99 : decode cX4_size 99 = .ok (.ifCond .eq 12, 3) := by decide +kernel
theorem dX4_size_102 : decode cX4_size 102 = .ok (.aload_n 0, 1) := by decide +kernel
theorem dX4_size_103 : decode cX4_size 103 = .ok (.getfield 7, 3) := by decide +kernel
theorem dX4_size_106 : decode cX4_size 106 = .ok (.iload_n 3, 1) := by decide +kernel
theorem dX4_size_107 : decode cX4_size 107 = .ok (.iaload, 1) := by decide +kernel
theorem dX4_size_108 : decode cX4_size 108 = .ok (.goto 4, 3) := by decide +kernel
theorem dX4_size_111 : decode cX4_size 111 = .ok (.iconst 0, 1) := by decide +kernel
theorem dX4_size_112 : decode cX4_size 112 = .ok (.iastore, 1) := by decide +kernel
theorem dX4_size_113 : decode cX4_size 113 = .ok (.aload_n 0, 1) := by decide +kernel
theorem dX4_size_114 : decode cX4_size 114 = .ok (.getfield 59, 3) := by decide +kernel
theorem dX4_size_117 : decode cX4_size 117 = .ok (.iload_n 3, 1) := by decide +kernel
theorem dX4_size_118 : decode cX4_size 118 = .ok (.ldc 102, 2) := by decide +kernel
theorem dX4_size_120 : decode cX4_size 120 = .ok (.iastore, 1) := by decide +kernel
theorem dX4_size_121 : decode cX4_size 121 = .ok (.iinc 3 1, 3) := by decide +kernel
theorem dX4_size_124 : decode cX4_size 124 = .ok (.goto (-99), 3) := by decide +kernel
theorem dX4_size_127 : decode cX4_size 127 = .ok (.aload_n 0, 1) := by decide +kernel
theorem dX4_size_128 : decode cX4_size 128 = .ok (.iload_n 1, 1) := by decide +kernel
theorem dX4_size_129 : decode cX4_size 129 = .ok (.i2l, 1) := by decide +kernel
theorem dX4_size_130 : decode cX4_size 130 = .ok (.iload_n 2, 1) := by decide +kernel
theorem dX4_size_131 : decode cX4_size 131 = .ok (.i2l, 1) := by decide +kernel
theorem dX4_size_132 : decode cX4_size 132 = .ok (.ladd, 1) := by decide +kernel
theorem dX4_size_133 : decode cX4_size 133 = .ok (.invokevirtual 103, 3) := by decide +kernel
theorem dX4_size_136 : decode cX4_size 136 = .ok (.pop, 1) := by decide +kernel
theorem dX4_size_137 : decode cX4_size 137 = .ok (.iconst 0, 1) := by decide +kernel
theorem dX4_size_138 : decode cX4_size 138 = .ok (.istore_n 3, 1) := by decide +kernel
theorem dX4_size_139 : decode cX4_size 139 = .ok (.iconst 0, 1) := by decide +kernel
theorem dX4_size_140 : decode cX4_size 140 = .ok (.istore 4, 2) := by decide +kernel
theorem dX4_size_142 : decode cX4_size 142 = .ok (.iload 4, 2) := by decide +kernel
theorem dX4_size_144 : decode cX4_size 144 = .ok (.aload_n 0, 1) := by decide +kernel
theorem dX4_size_145 : decode cX4_size 145 = .ok (.getfield 68, 3) := by decide +kernel
theorem dX4_size_148 : decode cX4_size 148 = .ok (.if_icmp .ge 64, 3) := by decide +kernel
theorem dX4_size_151 : decode cX4_size 151 = .ok (.aload_n 0, 1) := by decide +kernel
theorem dX4_size_152 : decode cX4_size 152 = .ok (.getfield 62, 3) := by decide +kernel
theorem dX4_size_155 : decode cX4_size 155 = .ok (.iload 4, 2) := by decide +kernel
theorem dX4_size_157 : decode cX4_size 157 = .ok (.iaload, 1) := by decide +kernel
theorem dX4_size_158 : decode cX4_size 158 = .ok (.aload_n 0, 1) := by decide +kernel
theorem dX4_size_159 : decode cX4_size 159 = .ok (.getfield 13, 3) := by decide +kernel
theorem dX4_size_162 : decode cX4_size 162 = .ok (.iload 4, 2) := by decide +kernel
theorem dX4_size_164 : decode cX4_size 164 = .ok (.iaload, 1) := by decide +kernel
theorem dX4_size_165 : decode cX4_size 165 = .ok (.if_icmp .le 21, 3) := by decide +kernel
theorem dX4_size_168 : decode cX4_size 168 = .ok (.aload_n 0, 1) := by decide +kernel
theorem dX4_size_169 : decode cX4_size 169 = .ok (.getfield 62, 3) := by decide +kernel
theorem dX4_size_172 : decode cX4_size 172 = .ok (.iload 4, 2) := by decide +kernel
theorem dX4_size_174 : decode cX4_size 174 = .ok (.iaload, 1) := by decide +kernel
theorem dX4_size_175 : decode cX4_size 175 = .ok (.aload_n 0, 1) := by decide +kernel
theorem dX4_size_176 : decode cX4_size 176 = .ok (.getfield 13, 3) := by decide +kernel
theorem dX4_size_179 : decode cX4_size 179 = .ok (.iload 4, 2) := by decide +kernel
theorem dX4_size_181 : decode cX4_size 181 = .ok (.iaload, 1) := by decide +kernel
theorem dX4_size_182 : decode cX4_size 182 = .ok (.isub, 1) := by decide +kernel
theorem dX4_size_183 : decode cX4_size 183 = .ok (.goto 4, 3) := by decide +kernel
theorem dX4_size_186 : decode cX4_size 186 = .ok (.iconst 0, 1) := by decide +kernel
theorem dX4_size_187 : decode cX4_size 187 = .ok (.istore 5, 2) := by decide +kernel
theorem dX4_size_189 : decode cX4_size 189 = .ok (.iload_n 3, 1) := by decide +kernel
theorem dX4_size_190 : decode cX4_size 190 = .ok (.iload 5, 2) := by decide +kernel
theorem dX4_size_192 : decode cX4_size 192 = .ok (.iadd, 1) := by decide +kernel
theorem dX4_size_193 : decode cX4_size 193 = .ok (.istore_n 3, 1) := by decide +kernel
theorem dX4_size_194 : decode cX4_size 194 = .ok (.aload_n 0, 1) := by decide +kernel
theorem dX4_size_195 : decode cX4_size 195 = .ok (.getfield 13, 3) := by decide +kernel
theorem dX4_size_198 : decode cX4_size 198 = .ok (.iload 4, 2) := by decide +kernel
theorem dX4_size_200 : decode cX4_size 200 = .ok (.dup2, 1) := by decide +kernel
theorem dX4_size_201 : decode cX4_size 201 = .ok (.iaload, 1) := by decide +kernel
theorem dX4_size_202 : decode cX4_size 202 = .ok (.iload 5, 2) := by decide +kernel
theorem dX4_size_204 : decode cX4_size 204 = .ok (.iadd, 1) := by decide +kernel
theorem dX4_size_205 : decode cX4_size 205 = .ok (.iastore, 1) := by decide +kernel
theorem dX4_size_206 : decode cX4_size 206 = .ok (.iinc 4 1, 3) := by decide +kernel
theorem dX4_size_209 : decode cX4_size 209 = .ok (.goto (-67), 3) := by decide +kernel
theorem dX4_size_212 : decode cX4_size 212 = .ok (.iload_n 3, 1) := by decide +kernel
theorem dX4_size_213 : decode cX4_size 213 = .ok (.ireturn, 1) := by decide +kernel
set_option maxRecDepth 20000 in
theorem ggX4_newOwner_X4_isActive : GoodIn wsX4_newOwner wsX4_isActive := goodIn_r _ [6, 7, 20, 21, 22, 23, 24, 25, 26, 27, 28, 29, 30, 31, 32, 33, 34, 35, 36, 37, 38, 39, 40, 41, 42, 43, 44, 45] (by decide +kernel) (by decide +kernel)
set_option maxRecDepth 20000 in
theorem gX4_newOwner_X4_isActive : GoodIn wsX4_newOwner (wsV RX4 90 RX4 yX4_isActive wsX4_isActive) := goodIn_app (goodIn_of _ (by decide +kernel)) ggX4_newOwner_X4_isActive
set_option maxRecDepth 20000 in
theorem ggX4_newOwner_X4_roomOf : GoodIn wsX4_newOwner wsX4_roomOf := goodIn_r _ [11, 12, 13, 14, 15, 5, 16, 17, 18, 19, 20, 21, 22, 23, 24, 25, 26, 27, 28, 29, 30, 31, 32, 33, 34, 35, 36, 37, 38, 39, 40, 41, 42, 43, 44, 45] (by decide +kernel) (by decide +kernel)
set_option maxRecDepth 20000 in
theorem gX4_newOwner_X4_roomOf : GoodIn wsX4_newOwner (wsV RX4 93 RX4 yX4_roomOf wsX4_roomOf) := goodIn_app (goodIn_of _ (by decide +kernel)) ggX4_newOwner_X4_roomOf
theorem dX4_newOwner_0 : decode cX4_newOwner 0 = .ok (.iconst 0, 1) := by decide +kernel
theorem dX4_newOwner_1 : decode cX4_newOwner 1 = .ok (.istore_n 2, 1) := by decide +kernel
theorem dX4_newOwner_2 : decode cX4_newOwner 2 = .ok (.iload_n 2, 1) := by decide +kernel
theorem dX4_newOwner_3 : decode cX4_newOwner 3 = .ok (.aload_n 0, 1) := by decide +kernel
theorem dX4_newOwner_4 : decode cX4_newOwner 4 = .ok (.getfield 68, 3) := by decide +kernel
theorem dX4_newOwner_7 : decode cX4_newOwner 7 = .ok (.if_icmp .ge 28, 3) := by decide +kernel
theorem dX4_newOwner_10 : decode cX4_newOwner 10 = .ok (.aload_n 0, 1) := by decide +kernel
theorem dX4_newOwner_11 : decode cX4_newOwner 11 = .ok (.iload_n 2, 1) := by decide +kernel
theorem dX4_newOwner_12 : decode cX4_newOwner 12 = .ok (.invokevirtual 90, 3) := by decide +kernel
theorem dX4_newOwner_15 : decode cX4_newOwner 15 = .ok (.ifCond .eq 14, 3) := by decide +kernel
theorem dX4_newOwner_18 : decode cX4_newOwner 18 = .ok (.aload_n 0, 1) := by decide +kernel
theorem dX4_newOwner_19 : decode cX4_newOwner 19 = .ok (.iload_n 2, 1) := by decide +kernel
theorem dX4_newOwner_20 : decode cX4_newOwner 20 = .ok (.invokevirtual 93, 3) := by decide +kernel
theorem dX4_newOwner_23 : decode cX4_newOwner 23 = .ok (.iload_n 1, 1) := by decide +kernel
theorem dX4_newOwner_24 : decode cX4_newOwner 24 = .ok (.if_icmp .lt 5, 3) := by decide +kernel
theorem dX4_newOwner_27 : decode cX4_newOwner 27 = .ok (.iload_n 2, 1) := by decide +kernel
theorem dX4_newOwner_28 : decode cX4_newOwner 28 = .ok (.ireturn, 1) := by decide +kernel
theorem dX4_newOwner_29 : decode cX4_newOwner 29 = .ok (.iinc 2 1, 3) := by decide +kernel
theorem dX4_newOwner_32 : decode cX4_newOwner 32 = .ok (.goto (-30), 3) := by decide +kernel
theorem dX4_newOwner_35 : decode cX4_newOwner 35 = .ok (.iconst (-1), 1) := by decide +kernel
theorem dX4_newOwner_36 : decode cX4_newOwner 36 = .ok (.ireturn, 1) := by decide +kernel
theorem dX4_firstOf_0 : decode cX4_firstOf 0 = .ok (.iconst (-1), 1) := by decide +kernel
theorem dX4_firstOf_1 : decode cX4_firstOf 1 = .ok (.istore_n 2, 1) := by decide +kernel
theorem dX4_firstOf_2 : decode cX4_firstOf 2 = .ok (.iconst 0, 1) := by decide +kernel
theorem dX4_firstOf_3 : decode cX4_firstOf 3 = .ok (.istore_n 3, 1) := by decide +kernel
theorem dX4_firstOf_4 : decode cX4_firstOf 4 = .ok (.iload_n 3, 1) := by decide +kernel
theorem dX4_firstOf_5 : decode cX4_firstOf 5 = .ok (.aload_n 0, 1) := by decide +kernel
theorem dX4_firstOf_6 : decode cX4_firstOf 6 = .ok (.getfield 80, 3) := by decide +kernel
theorem dX4_firstOf_9 : decode cX4_firstOf 9 = .ok (.if_icmp .ge 41, 3) := by decide +kernel
theorem dX4_firstOf_12 : decode cX4_firstOf 12 = .ok (.aload_n 0, 1) := by decide +kernel
theorem dX4_firstOf_13 : decode cX4_firstOf 13 = .ok (.getfield 37, 3) := by decide +kernel
theorem dX4_firstOf_16 : decode cX4_firstOf 16 = .ok (.iload_n 3, 1) := by decide +kernel
theorem dX4_firstOf_17 : decode cX4_firstOf 17 = .ok (.iaload, 1) := by decide +kernel
theorem dX4_firstOf_18 : decode cX4_firstOf 18 = .ok (.iload_n 1, 1) := by decide +kernel
theorem dX4_firstOf_19 : decode cX4_firstOf 19 = .ok (.if_icmp .ne 25, 3) := by decide +kernel
theorem dX4_firstOf_22 : decode cX4_firstOf 22 = .ok (.iload_n 2, 1) := by decide +kernel
theorem dX4_firstOf_23 : decode cX4_firstOf 23 = .ok (.iconst (-1), 1) := by decide +kernel
theorem dX4_firstOf_24 : decode cX4_firstOf 24 = .ok (.if_icmp .eq 18, 3) := by decide +kernel
theorem dX4_firstOf_27 : decode cX4_firstOf 27 = .ok (.aload_n 0, 1) := by decide +kernel
theorem dX4_firstOf_28 : decode cX4_firstOf 28 = .ok (.getfield 43, 3) := by decide +kernel
theorem dX4_firstOf_31 : decode cX4_firstOf 31 = .ok (.iload_n 3, 1) := by decide +kernel
theorem dX4_firstOf_32 : decode cX4_firstOf 32 = .ok (.iaload, 1) := by decide +kernel
theorem dX4_firstOf_33 : decode cX4_firstOf 33 = .ok (.aload_n 0, 1) := by decide +kernel
theorem dX4_firstOf_34 : decode cX4_firstOf 34 = .ok (.getfield 43, 3) := by decide +kernel
theorem dX4_firstOf_37 : decode cX4_firstOf 37 = .ok (.iload_n 2, 1) := by decide +kernel
theorem dX4_firstOf_38 : decode cX4_firstOf 38 = .ok (.iaload, 1) := by decide +kernel
theorem dX4_firstOf_39 : decode cX4_firstOf 39 = .ok (.if_icmp .ge 5, 3) := by decide +kernel
theorem dX4_firstOf_42 : decode cX4_firstOf 42 = .ok (.iload_n 3, 1) := by decide +kernel
theorem dX4_firstOf_43 : decode cX4_firstOf 43 = .ok (.istore_n 2, 1) := by decide +kernel
theorem dX4_firstOf_44 : decode cX4_firstOf 44 = .ok (.iinc 3 1, 3) := by decide +kernel
theorem dX4_firstOf_47 : decode cX4_firstOf 47 = .ok (.goto (-43), 3) := by decide +kernel
theorem dX4_firstOf_50 : decode cX4_firstOf 50 = .ok (.iload_n 2, 1) := by decide +kernel
theorem dX4_firstOf_51 : decode cX4_firstOf 51 = .ok (.ireturn, 1) := by decide +kernel
set_option maxRecDepth 20000 in
theorem ggX4_fail_X4_isMember : GoodIn wsX4_fail wsX4_isMember := goodIn_r _ [17, 10, 18, 19, 16, 20, 47, 48, 49, 50, 51, 52, 53, 54, 55, 56, 57, 58, 59, 60, 61, 62, 63, 64, 65, 66, 67, 68, 69, 70, 71, 72] (by decide +kernel) (by decide +kernel)
set_option maxRecDepth 20000 in
theorem gX4_fail_X4_isMember : GoodIn wsX4_fail (wsV RX4 86 RX4 yX4_isMember wsX4_isMember) := goodIn_app (goodIn_of _ (by decide +kernel)) ggX4_fail_X4_isMember
set_option maxRecDepth 20000 in
theorem ggX4_fail_X4_fails : GoodIn wsX4_fail wsX4_fails := goodIn_r _ [24, 1, 47, 48, 49, 50, 51, 52, 53, 54, 55, 56, 57, 58, 59, 60, 61, 62, 63, 64, 65, 66, 67, 68, 69, 70, 71, 72] (by decide +kernel) (by decide +kernel)
set_option maxRecDepth 20000 in
theorem gX4_fail_X4_fails : GoodIn wsX4_fail (wsV RX4 76 RX4 yX4_fails wsX4_fails) := goodIn_app (goodIn_of _ (by decide +kernel)) ggX4_fail_X4_fails
set_option maxRecDepth 20000 in
theorem ggX4_fail_X4_in : GoodIn wsX4_fail wsX4_in := goodIn_r _ [20] (by decide +kernel) (by decide +kernel)
set_option maxRecDepth 20000 in
theorem gX4_fail_X4_in : GoodIn wsX4_fail (va_wsS RX4 71 yX4_in wsX4_in) := goodIn_app (goodIn_of _ (by decide +kernel)) ggX4_fail_X4_in
set_option maxRecDepth 20000 in
theorem ggX4_fail_X4_isActive : GoodIn wsX4_fail wsX4_isActive := goodIn_r _ [28, 3, 47, 48, 49, 50, 51, 52, 53, 54, 55, 56, 57, 58, 59, 60, 61, 62, 63, 64, 65, 66, 67, 68, 69, 70, 71, 72] (by decide +kernel) (by decide +kernel)
set_option maxRecDepth 20000 in
theorem gX4_fail_X4_isActive : GoodIn wsX4_fail (wsV RX4 90 RX4 yX4_isActive wsX4_isActive) := goodIn_app (goodIn_of _ (by decide +kernel)) ggX4_fail_X4_isActive
set_option maxRecDepth 20000 in
theorem ggX4_fail_X4_firstOf : GoodIn wsX4_fail wsX4_firstOf := goodIn_r _ [32, 33, 5, 7, 47, 48, 49, 50, 51, 52, 53, 54, 55, 56, 57, 58, 59, 60, 61, 62, 63, 64, 65, 66, 67, 68, 69, 70, 71, 72] (by decide +kernel) (by decide +kernel)
set_option maxRecDepth 20000 in
theorem gX4_fail_X4_firstOf : GoodIn wsX4_fail (wsV RX4 110 RX4 yX4_firstOf wsX4_firstOf) := goodIn_app (goodIn_of _ (by decide +kernel)) ggX4_fail_X4_firstOf
set_option maxRecDepth 20000 in
theorem ggX4_fail_X4_newOwner : GoodIn wsX4_fail wsX4_newOwner := goodIn_r _ [37, 10, 25, 26, 27, 16, 28, 3, 38, 39, 40, 41, 42, 43, 44, 45, 46, 33, 5, 6, 47, 48, 49, 50, 51, 52, 53, 54, 55, 56, 57, 58, 59, 60, 61, 62, 63, 64, 65, 66, 67, 68, 69, 70, 71, 72] (by decide +kernel) (by decide +kernel)
set_option maxRecDepth 20000 in
theorem gX4_fail_X4_newOwner : GoodIn wsX4_fail (wsV RX4 113 RX4 yX4_newOwner wsX4_newOwner) := goodIn_app (goodIn_of _ (by decide +kernel)) ggX4_fail_X4_newOwner
theorem dX4_fail_0 : decode cX4_fail 0 = .ok (.aload_n 0, 1) := by decide +kernel
theorem dX4_fail_1 : decode cX4_fail 1 = .ok (.iconst 0, 1) := by decide +kernel
theorem dX4_fail_2 : decode cX4_fail 2 = .ok (.putfield 65, 3) := by decide +kernel
theorem dX4_fail_5 : decode cX4_fail 5 = .ok (.aload_n 0, 1) := by decide +kernel
theorem dX4_fail_6 : decode cX4_fail 6 = .ok (.iload_n 1, 1) := by decide +kernel
theorem dX4_fail_7 : decode cX4_fail 7 = .ok (.invokevirtual 86, 3) := by decide +kernel
theorem dX4_fail_10 : decode cX4_fail 10 = .ok (.ifCond .ne 9, 3) := by decide +kernel
theorem dX4_fail_13 : decode cX4_fail 13 = .ok (.aload_n 0, 1) := by decide +kernel
theorem dX4_fail_14 : decode cX4_fail 14 = .ok (.iconst 1, 1) := by decide +kernel
theorem dX4_fail_15 : decode cX4_fail 15 = .ok (.invokevirtual 76, 3) := by decide +kernel
theorem dX4_fail_18 : decode cX4_fail 18 = .ok (.ireturn, 1) := by decide +kernel
theorem dX4_fail_19 : decode cX4_fail 19 = .ok (.iload_n 2, 1) := by decide +kernel
theorem dX4_fail_20 : decode cX4_fail 20 = .ok (.iconst 1, 1) := by decide +kernel
theorem dX4_fail_21 : decode cX4_fail 21 = .ok (.bipush 20, 2) := by decide +kernel
theorem dX4_fail_23 : decode cX4_fail 23 = .ok (.invokestatic 71, 3) := by decide +kernel
theorem dX4_fail_26 : decode cX4_fail 26 = .ok (.ifCond .ne 9, 3) := by decide +kernel
theorem dX4_fail_29 : decode cX4_fail 29 = .ok (.aload_n 0, 1) := by decide +kernel
theorem dX4_fail_30 : decode cX4_fail 30 = .ok (.iconst 2, 1) := by decide +kernel
theorem dX4_fail_31 : decode cX4_fail 31 = .ok (.invokevirtual 76, 3) := by decide +kernel
theorem dX4_fail_34 : decode cX4_fail 34 = .ok (.ireturn, 1) := by decide +kernel
theorem dX4_fail_35 : decode cX4_fail 35 = .ok (.aload_n 0, 1) := by decide +kernel
theorem dX4_fail_36 : decode cX4_fail 36 = .ok (.iload_n 1, 1) := by decide +kernel
theorem dX4_fail_37 : decode cX4_fail 37 = .ok (.invokevirtual 90, 3) := by decide +kernel
theorem dX4_fail_40 : decode cX4_fail 40 = .ok (.ifCond .eq 11, 3) := by decide +kernel
theorem dX4_fail_43 : decode cX4_fail 43 = .ok (.aload_n 0, 1) := by decide +kernel
theorem dX4_fail_44 : decode cX4_fail 44 = .ok (.getfield 46, 3) := by decide +kernel
theorem dX4_fail_47 : decode cX4_fail 47 = .ok (.iconst (-1), 1) := by decide +kernel
theorem dX4_fail_48 : decode cX4_fail 48 = .ok (.if_icmp .eq 9, 3) := by decide +kernel
theorem dX4_fail_51 : decode cX4_fail 51 = .ok (.aload_n 0, 1) := by decide +kernel
theorem dX4_fail_52 : decode cX4_fail 52 = .ok (.iconst 3, 1) := by decide +kernel
theorem dX4_fail_53 : decode cX4_fail 53 = .ok (.invokevirtual 76, 3) := by decide +kernel
theorem dX4_fail_56 : decode cX4_fail 56 = .ok (.ireturn, 1) := by decide +kernel
theorem dX4_fail_57 : decode cX4_fail 57 = .ok (.aload_n 0, 1) := by decide +kernel
theorem dX4_fail_58 : decode cX4_fail 58 = .ok (.getfield 25, 3) := by decide +kernel
theorem dX4_fail_61 : decode cX4_fail 61 = .ok (.iload_n 1, 1) := by decide +kernel
theorem dX4_fail_62 : decode cX4_fail 62 = .ok (.iconst 2, 1) := by decide +kernel
theorem dX4_fail_63 : decode cX4_fail 63 = .ok (.iastore, 1) := by decide +kernel
theorem dX4_fail_64 : decode cX4_fail 64 = .ok (.aload_n 0, 1) := by decide +kernel
theorem dX4_fail_65 : decode cX4_fail 65 = .ok (.iload_n 1, 1) := by decide +kernel
theorem dX4_fail_66 : decode cX4_fail 66 = .ok (.putfield 46, 3) := by decide +kernel
theorem dX4_fail_69 : decode cX4_fail 69 = .ok (.aload_n 0, 1) := by decide +kernel
theorem dX4_fail_70 : decode cX4_fail 70 = .ok (.iload_n 2, 1) := by decide +kernel
theorem dX4_fail_71 : decode cX4_fail 71 = .ok (.putfield 107, 3) := by decide +kernel
theorem dX4_fail_74 : decode cX4_fail 74 = .ok (.aload_n 0, 1) := by decide +kernel
theorem dX4_fail_75 : decode cX4_fail 75 = .ok (.iload_n 1, 1) := by decide +kernel
theorem dX4_fail_76 : decode cX4_fail 76 = .ok (.invokevirtual 110, 3) := by decide +kernel
theorem dX4_fail_79 : decode cX4_fail 79 = .ok (.istore_n 3, 1) := by decide +kernel
theorem dX4_fail_80 : decode cX4_fail 80 = .ok (.iload_n 3, 1) := by decide +kernel
theorem dX4_fail_81 : decode cX4_fail 81 = .ok (.iconst (-1), 1) := by decide +kernel
theorem dX4_fail_82 : decode cX4_fail 82 = .ok (.if_icmp .eq 77, 3) := by decide +kernel
theorem dX4_fail_85 : decode cX4_fail 85 = .ok (.aload_n 0, 1) := by decide +kernel
theorem dX4_fail_86 : decode cX4_fail 86 = .ok (.getfield 37, 3) := by decide +kernel
theorem dX4_fail_89 : decode cX4_fail 89 = .ok (.iload_n 3, 1) := by decide +kernel
theorem dX4_fail_90 : decode cX4_fail 90 = .ok (.aload_n 0, 1) := by decide +kernel
theorem dX4_fail_91 : decode cX4_fail 91 = .ok (.aload_n 0, 1) := by decide +kernel
theorem dX4_fail_92 : decode cX4_fail 92 = .ok (.getfield 40, 3) := by decide +kernel
theorem dX4_fail_95 : decode cX4_fail 95 = .ok (.iload_n 3, 1) := by decide +kernel
theorem dX4_fail_96 : decode cX4_fail 96 = .ok (.iaload, 1) := by decide +kernel
theorem dX4_fail_97 : decode cX4_fail 97 = .ok (.invokevirtual 113, 3) := by decide +kernel
theorem dX4_fail_100 : decode cX4_fail 100 = .ok (.iastore, 1) := by decide +kernel
theorem dX4_fail_101 : decode cX4_fail 101 = .ok (.aload_n 0, 1) := by decide +kernel
theorem dX4_fail_102 : decode cX4_fail 102 = .ok (.getfield 43, 3) := by decide +kernel
theorem dX4_fail_105 : decode cX4_fail 105 = .ok (.iload_n 3, 1) := by decide +kernel
theorem dX4_fail_106 : decode cX4_fail 106 = .ok (.aload_n 0, 1) := by decide +kernel
theorem dX4_fail_107 : decode cX4_fail 107 = .ok (.getfield 96, 3) := by decide +kernel
theorem dX4_fail_110 : decode cX4_fail 110 = .ok (.iastore, 1) := by decide +kernel
theorem dX4_fail_111 : decode cX4_fail 111 = .ok (.aload_n 0, 1) := by decide +kernel
theorem dX4_fail_112 : decode cX4_fail 112 = .ok (.dup, 1) := by decide +kernel
theorem dX4_fail_113 : decode cX4_fail 113 = .ok (.getfield 96, 3) := by decide +kernel
theorem dX4_fail_116 : decode cX4_fail 116 = .ok (.iconst 1, 1) := by decide +kernel
theorem dX4_fail_117 : decode cX4_fail 117 = .ok (.iadd, 1) := by decide +kernel
theorem dX4_fail_118 : decode cX4_fail 118 = .ok (.putfield 96, 3) := by decide +kernel
theorem dX4_fail_121 : decode cX4_fail 121 = .ok (.aload_n 0, 1) := by decide +kernel
theorem dX4_fail_122 : decode cX4_fail 122 = .ok (.dup, 1) := by decide +kernel
theorem dX4_fail_123 : decode cX4_fail 123 = .ok (.getfield 107, 3) := by decide +kernel
theorem dX4_fail_126 : decode cX4_fail 126 = .ok (.aload_n 0, 1) := by decide +kernel
theorem dX4_fail_127 : decode cX4_fail 127 = .ok (.getfield 37, 3) := by decide +kernel
theorem dX4_fail_130 : decode cX4_fail 130 = .ok (.iload_n 3, 1) := by decide +kernel
theorem dX4_fail_131 : decode cX4_fail 131 = .ok (.iaload, 1) := by decide +kernel
theorem dX4_fail_132 : decode cX4_fail 132 = .ok (.iconst (-1), 1) := by decide +kernel
theorem dX4_fail_133 : decode cX4_fail 133 = .ok (.if_icmp .ne 12, 3) := by decide +kernel
theorem dX4_fail_136 : decode cX4_fail 136 = .ok (.aload_n 0, 1) := by decide +kernel
theorem dX4_fail_137 : decode cX4_fail 137 = .ok (.getfield 40, 3) := by decide +kernel
theorem dX4_fail_140 : decode cX4_fail 140 = .ok (.iload_n 3, 1) := by decide +kernel
theorem dX4_fail_141 : decode cX4_fail 141 = .ok (.iaload, 1) := by decide +kernel
theorem dX4_fail_142 : decode cX4_fail 142 = .ok (.goto 4, 3) := by decide +kernel
theorem dX4_fail_145 : decode cX4_fail 145 = .ok (.iconst 0, 1) := by decide +kernel
theorem dX4_fail_146 : decode cX4_fail 146 = .ok (.iadd, 1) := by decide +kernel
theorem dX4_fail_147 : decode cX4_fail 147 = .ok (.putfield 107, 3) := by decide +kernel
theorem dX4_fail_150 : decode cX4_fail 150 = .ok (.aload_n 0, 1) := by decide +kernel
theorem dX4_fail_151 : decode cX4_fail 151 = .ok (.iload_n 1, 1) := by decide +kernel
theorem dX4_fail_152 : decode cX4_fail 152 = .ok (.invokevirtual 110, 3) := by decide +kernel
theorem dX4_fail_155 : decode cX4_fail 155 = .ok (.istore_n 3, 1) := by decide +kernel
theorem dX4_fail_156 : decode cX4_fail 156 = .ok (.goto (-76), 3) := by decide +kernel
theorem dX4_fail_159 : decode cX4_fail 159 = .ok (.iconst 0, 1) := by decide +kernel
theorem dX4_fail_160 : decode cX4_fail 160 = .ok (.istore 4, 2) := by decide +kernel
theorem dX4_fail_162 : decode cX4_fail 162 = .ok (.iload 4, 2) := by decide +kernel
theorem dX4_fail_164 : decode cX4_fail 164 = .ok (.bipush 10, 2) := by decide +kernel
theorem dX4_fail_166 : decode cX4_fail 166 = .ok (.if_icmp .ge 36, 3) := by decide +kernel
theorem dX4_fail_169 : decode cX4_fail 169 = .ok (.aload_n 0, 1) := by decide +kernel
theorem dX4_fail_170 : decode cX4_fail 170 = .ok (.getfield 53, 3) := by decide +kernel
theorem dX4_fail_173 : decode cX4_fail 173 = .ok (.iload 4, 2) := by decide +kernel
theorem dX4_fail_175 : decode cX4_fail 175 = .ok (.iload 4, 2) := by decide +kernel
theorem dX4_fail_177 : decode cX4_fail 177 = .ok (.aload_n 0, 1) := by decide +kernel
theorem dX4_fail_178 : decode cX4_fail 178 = .ok (.getfield 68, 3) := by decide +kernel
theorem dX4_fail_181 : decode cX4_fail 181 = .ok (.if_icmp .ge 13, 3) := by decide +kernel
theorem dX4_fail_184 : decode cX4_fail 184 = .ok (.aload_n 0, 1) := by decide +kernel
theorem dX4_fail_185 : decode cX4_fail 185 = .ok (.getfield 13, 3) := by decide +kernel
theorem dX4_fail_188 : decode cX4_fail 188 = .ok (.iload 4, 2) := by decide +kernel
theorem dX4_fail_190 : decode cX4_fail 190 = .ok (.iaload, 1) := by decide +kernel
theorem dX4_fail_191 : decode cX4_fail 191 = .ok (.goto 4, 3) := by decide +kernel
theorem dX4_fail_194 : decode cX4_fail 194 = .ok (.iconst 0, 1) := by decide +kernel
theorem dX4_fail_195 : decode cX4_fail 195 = .ok (.iastore, 1) := by decide +kernel
theorem dX4_fail_196 : decode cX4_fail 196 = .ok (.iinc 4 1, 3) := by decide +kernel
theorem dX4_fail_199 : decode cX4_fail 199 = .ok (.goto (-37), 3) := by decide +kernel
theorem dX4_fail_202 : decode cX4_fail 202 = .ok (.iconst 0, 1) := by decide +kernel
theorem dX4_fail_203 : decode cX4_fail 203 = .ok (.istore 4, 2) := by decide +kernel
theorem dX4_fail_205 : decode cX4_fail 205 = .ok (.iload 4, 2) := by decide +kernel
theorem dX4_fail_207 : decode cX4_fail 207 = .ok (.bipush 10, 2) := by decide +kernel
theorem dX4_fail_209 : decode cX4_fail 209 = .ok (.aload_n 0, 1) := by decide +kernel
theorem dX4_fail_210 : decode cX4_fail 210 = .ok (.getfield 107, 3) := by decide +kernel
theorem dX4_fail_213 : decode cX4_fail 213 = .ok (.imul, 1) := by decide +kernel
theorem dX4_fail_214 : decode cX4_fail 214 = .ok (.if_icmp .ge 19, 3) := by decide +kernel
theorem dX4_fail_217 : decode cX4_fail 217 = .ok (.aload_n 0, 1) := by decide +kernel
theorem dX4_fail_218 : decode cX4_fail 218 = .ok (.getfield 50, 3) := by decide +kernel
theorem dX4_fail_221 : decode cX4_fail 221 = .ok (.iload 4, 2) := by decide +kernel
theorem dX4_fail_223 : decode cX4_fail 223 = .ok (.sipush 5000, 3) := by decide +kernel
theorem dX4_fail_226 : decode cX4_fail 226 = .ok (.iastore, 1) := by decide +kernel
theorem dX4_fail_227 : decode cX4_fail 227 = .ok (.iinc 4 1, 3) := by decide +kernel
theorem dX4_fail_230 : decode cX4_fail 230 = .ok (.goto (-25), 3) := by decide +kernel
theorem dX4_fail_233 : decode cX4_fail 233 = .ok (.aload_n 0, 1) := by decide +kernel
theorem dX4_fail_234 : decode cX4_fail 234 = .ok (.getfield 107, 3) := by decide +kernel
theorem dX4_fail_237 : decode cX4_fail 237 = .ok (.ireturn, 1) := by decide +kernel
set_option maxRecDepth 20000 in
theorem ggX4_bid_X4_isMember : GoodIn wsX4_bid wsX4_isMember := goodIn_r _ [9, 10, 11, 12, 8, 13, 23, 24, 25, 26, 27, 28, 29, 30, 31, 32, 33, 34, 35, 36, 37, 38, 39, 40, 41, 42, 43, 44, 45, 46, 47, 48] (by decide +kernel) (by decide +kernel)
set_option maxRecDepth 20000 in
theorem gX4_bid_X4_isMember : GoodIn wsX4_bid (wsV RX4 86 RX4 yX4_isMember wsX4_isMember) := goodIn_app (goodIn_of _ (by decide +kernel)) ggX4_bid_X4_isMember
set_option maxRecDepth 20000 in
theorem ggX4_bid_X4_in : GoodIn wsX4_bid wsX4_in := goodIn_r _ [13] (by decide +kernel) (by decide +kernel)
set_option maxRecDepth 20000 in
theorem gX4_bid_X4_in : GoodIn wsX4_bid (va_wsS RX4 71 yX4_in wsX4_in) := goodIn_app (goodIn_of _ (by decide +kernel)) ggX4_bid_X4_in
set_option maxRecDepth 20000 in
theorem ggX4_bid_X4_fails : GoodIn wsX4_bid wsX4_fails := goodIn_r _ [17, 1, 23, 24, 25, 26, 27, 28, 29, 30, 31, 32, 33, 34, 35, 36, 37, 38, 39, 40, 41, 42, 43, 44, 45, 46, 47, 48] (by decide +kernel) (by decide +kernel)
set_option maxRecDepth 20000 in
theorem gX4_bid_X4_fails : GoodIn wsX4_bid (wsV RX4 76 RX4 yX4_fails wsX4_fails) := goodIn_app (goodIn_of _ (by decide +kernel)) ggX4_bid_X4_fails
set_option maxRecDepth 20000 in
theorem ggX4_bid_X4_isActive : GoodIn wsX4_bid wsX4_isActive := goodIn_r _ [21, 22, 23, 24, 25, 26, 27, 28, 29, 30, 31, 32, 33, 34, 35, 36, 37, 38, 39, 40, 41, 42, 43, 44, 45, 46, 47, 48] (by decide +kernel) (by decide +kernel)
set_option maxRecDepth 20000 in
theorem gX4_bid_X4_isActive : GoodIn wsX4_bid (wsV RX4 90 RX4 yX4_isActive wsX4_isActive) := goodIn_app (goodIn_of _ (by decide +kernel)) ggX4_bid_X4_isActive
theorem dX4_bid_0 : decode cX4_bid 0 = .ok (.aload_n 0, 1) := by decide +kernel
theorem dX4_bid_1 : decode cX4_bid 1 = .ok (.iconst 0, 1) := by decide +kernel
theorem dX4_bid_2 : decode cX4_bid 2 = .ok (.putfield 65, 3) := by decide +kernel
theorem dX4_bid_5 : decode cX4_bid 5 = .ok (.aload_n 0, 1) := by decide +kernel
theorem dX4_bid_6 : decode cX4_bid 6 = .ok (.iload_n 1, 1) := by decide +kernel
theorem dX4_bid_7 : decode cX4_bid 7 = .ok (.invokevirtual 86, 3) := by decide +kernel
theorem dX4_bid_10 : decode cX4_bid 10 = .ok (.ifCond .eq 25, 3) := by decide +kernel
theorem dX4_bid_13 : decode cX4_bid 13 = .ok (.aload_n 0, 1) := by decide +kernel
theorem dX4_bid_14 : decode cX4_bid 14 = .ok (.getfield 46, 3) := by decide +kernel
theorem dX4_bid_17 : decode cX4_bid 17 = .ok (.iconst (-1), 1) := by decide +kernel
theorem dX4_bid_18 : decode cX4_bid 18 = .ok (.if_icmp .eq 17, 3) := by decide +kernel
theorem dX4_bid_21 : decode cX4_bid 21 = .ok (.iload_n 2, 1) := by decide +kernel
theorem dX4_bid_22 : decode cX4_bid 22 = .ok (.iconst 0, 1) := by decide +kernel
theorem dX4_bid_23 : decode cX4_bid 23 = .ok (.aload_n 0, 1) := by decide +kernel
theorem dX4_bid_24 : decode cX4_bid 24 = .ok (.getfield 107, 3) := by decide +kernel
theorem dX4_bid_27 : decode cX4_bid 27 = .ok (.iconst 1, 1) := by decide +kernel
theorem dX4_bid_28 : decode cX4_bid 28 = .ok (.isub, 1) := by decide +kernel
theorem dX4_bid_29 : decode cX4_bid 29 = .ok (.invokestatic 71, 3) := by decide +kernel
theorem dX4_bid_32 : decode cX4_bid 32 = .ok (.ifCond .ne 10, 3) := by decide +kernel
theorem dX4_bid_35 : decode cX4_bid 35 = .ok (.aload_n 0, 1) := by decide +kernel
theorem dX4_bid_36 : decode cX4_bid 36 = .ok (.iconst 1, 1) := by decide +kernel
theorem dX4_bid_37 : decode cX4_bid 37 = .ok (.invokevirtual 76, 3) := by decide +kernel
theorem dX4_bid_40 : decode cX4_bid 40 = .ok (.pop, 1) := by decide +kernel
theorem dX4_bid_41 : decode cX4_bid 41 = .ok (.return_, 1) := by decide +kernel
theorem dX4_bid_42 : decode cX4_bid 42 = .ok (.iload_n 3, 1) := by decide +kernel
theorem dX4_bid_43 : decode cX4_bid 43 = .ok (.sipush (-1000), 3) := by decide +kernel
theorem dX4_bid_46 : decode cX4_bid 46 = .ok (.sipush 1000, 3) := by decide +kernel
theorem dX4_bid_49 : decode cX4_bid 49 = .ok (.invokestatic 71, 3) := by decide +kernel
theorem dX4_bid_52 : decode cX4_bid 52 = .ok (.ifCond .ne 10, 3) := by decide +kernel
theorem dX4_bid_55 : decode cX4_bid 55 = .ok (.aload_n 0, 1) := by decide +kernel
theorem dX4_bid_56 : decode cX4_bid 56 = .ok (.iconst 2, 1) := by decide +kernel
theorem dX4_bid_57 : decode cX4_bid 57 = .ok (.invokevirtual 76, 3) := by decide +kernel
theorem dX4_bid_60 : decode cX4_bid 60 = .ok (.pop, 1) := by decide +kernel
theorem dX4_bid_61 : decode cX4_bid 61 = .ok (.return_, 1) := by decide +kernel
theorem dX4_bid_62 : decode cX4_bid 62 = .ok (.aload_n 0, 1) := by decide +kernel
theorem dX4_bid_63 : decode cX4_bid 63 = .ok (.iload_n 1, 1) := by decide +kernel
theorem dX4_bid_64 : decode cX4_bid 64 = .ok (.invokevirtual 90, 3) := by decide +kernel
theorem dX4_bid_67 : decode cX4_bid 67 = .ok (.ifCond .eq 20, 3) := by decide +kernel
theorem dX4_bid_70 : decode cX4_bid 70 = .ok (.aload_n 0, 1) := by decide +kernel
theorem dX4_bid_71 : decode cX4_bid 71 = .ok (.getfield 50, 3) := by decide +kernel
theorem dX4_bid_74 : decode cX4_bid 74 = .ok (.bipush 10, 2) := by decide +kernel
theorem dX4_bid_76 : decode cX4_bid 76 = .ok (.iload_n 2, 1) := by decide +kernel
theorem dX4_bid_77 : decode cX4_bid 77 = .ok (.imul, 1) := by decide +kernel
theorem dX4_bid_78 : decode cX4_bid 78 = .ok (.iload_n 1, 1) := by decide +kernel
theorem dX4_bid_79 : decode cX4_bid 79 = .ok (.iadd, 1) := by decide +kernel
theorem dX4_bid_80 : decode cX4_bid 80 = .ok (.iaload, 1) := by decide +kernel
theorem dX4_bid_81 : decode cX4_bid 81 = .ok (.sipush 5000, 3) := by decide +kernel
theorem dX4_bid_84 : decode cX4_bid 84 = .ok (.if_icmp .eq 10, 3) := by decide +kernel
theorem dX4_bid_87 : decode cX4_bid 87 = .ok (.aload_n 0, 1) := by decide +kernel
theorem dX4_bid_88 : decode cX4_bid 88 = .ok (.iconst 3, 1) := by decide +kernel
theorem dX4_bid_89 : decode cX4_bid 89 = .ok (.invokevirtual 76, 3) := by decide +kernel
theorem dX4_bid_92 : decode cX4_bid 92 = .ok (.pop, 1) := by decide +kernel
theorem dX4_bid_93 : decode cX4_bid 93 = .ok (.return_, 1) := by decide +kernel
theorem dX4_bid_94 : decode cX4_bid 94 = .ok (.aload_n 0, 1) := by decide +kernel
theorem dX4_bid_95 : decode cX4_bid 95 = .ok (.getfield 50, 3) := by decide +kernel
theorem dX4_bid_98 : decode cX4_bid 98 = .ok (.bipush 10, 2) := by decide +kernel
theorem dX4_bid_100 : decode cX4_bid 100 = .ok (.iload_n 2, 1) := by decide +kernel
theorem dX4_bid_101 : decode cX4_bid 101 = .ok (.imul, 1) := by decide +kernel
theorem dX4_bid_102 : decode cX4_bid 102 = .ok (.iload_n 1, 1) := by decide +kernel
theorem dX4_bid_103 : decode cX4_bid 103 = .ok (.iadd, 1) := by decide +kernel
theorem dX4_bid_104 : decode cX4_bid 104 = .ok (.iload_n 3, 1) := by decide +kernel
theorem dX4_bid_105 : decode cX4_bid 105 = .ok (.iastore, 1) := by decide +kernel
theorem dX4_bid_106 : decode cX4_bid 106 = .ok (.return_, 1) := by decide +kernel
theorem dX4_winner_0 : decode cX4_winner 0 = .ok (.iconst (-1), 1) := by decide +kernel
theorem dX4_winner_1 : decode cX4_winner 1 = .ok (.istore_n 2, 1) := by decide +kernel
theorem dX4_winner_2 : decode cX4_winner 2 = .ok (.iconst 0, 1) := by decide +kernel
theorem dX4_winner_3 : decode cX4_winner 3 = .ok (.istore_n 3, 1) := by decide +kernel
theorem dX4_winner_4 : decode cX4_winner 4 = .ok (.iload_n 3, 1) := by decide +kernel
theorem dX4_winner_5 : decode cX4_winner 5 = .ok (.aload_n 0, 1) := by decide +kernel
theorem dX4_winner_6 : decode cX4_winner 6 = .ok (.getfield 68, 3) := by decide +kernel
theorem dX4_winner_9 : decode cX4_winner 9 = .ok (.if_icmp .ge 53, 3) := by decide +kernel
theorem dX4_winner_12 : decode cX4_winner 12 = .ok (.aload_n 0, 1) := by decide +kernel
theorem dX4_winner_13 : decode cX4_winner 13 = .ok (.getfield 50, 3) := by decide +kernel
theorem dX4_winner_16 : decode cX4_winner 16 = .ok (.bipush 10, 2) := by decide +kernel
theorem dX4_winner_18 : decode cX4_winner 18 = .ok (.iload_n 1, 1) := by decide +kernel
theorem dX4_winner_19 : decode cX4_winner 19 = .ok (.imul, 1) := by decide +kernel
theorem dX4_winner_20 : decode cX4_winner 20 = .ok (.iload_n 3, 1) := by decide +kernel
theorem dX4_winner_21 : decode cX4_winner 21 = .ok (.iadd, 1) := by decide +kernel
theorem dX4_winner_22 : decode cX4_winner 22 = .ok (.iaload, 1) := by decide +kernel
theorem dX4_winner_23 : decode cX4_winner 23 = .ok (.istore 4, 2) := by decide +kernel
theorem dX4_winner_25 : decode cX4_winner 25 = .ok (.iload 4, 2) := by decide +kernel
theorem dX4_winner_27 : decode cX4_winner 27 = .ok (.sipush 5000, 3) := by decide +kernel
theorem dX4_winner_30 : decode cX4_winner 30 = .ok (.if_icmp .eq 26, 3) := by decide +kernel
theorem dX4_winner_33 : decode cX4_winner 33 = .ok (.iload_n 2, 1) := by decide +kernel
theorem dX4_winner_34 : decode cX4_winner 34 = .ok (.iconst (-1), 1) := by decide +kernel
theorem dX4_winner_35 : decode cX4_winner 35 = .ok (.if_icmp .eq 19, 3) := by decide +kernel
theorem dX4_winner_38 : decode cX4_winner 38 = .ok (.iload 4, 2) := by decide +kernel
theorem dX4_winner_40 : decode cX4_winner 40 = .ok (.aload_n 0, 1) := by decide +kernel
theorem dX4_winner_41 : decode cX4_winner 41 = .ok (.getfield 50, 3) := by decide +kernel
theorem dX4_winner_44 : decode cX4_winner 44 = .ok (.bipush 10, 2) := by decide +kernel
theorem dX4_winner_46 : decode cX4_winner 46 = .ok (.iload_n 1, 1) := by decide +kernel
theorem dX4_winner_47 : decode cX4_winner 47 = .ok (.imul, 1) := by decide +kernel
theorem dX4_winner_48 : decode cX4_winner 48 = .ok (.iload_n 2, 1) := by decide +kernel
theorem dX4_winner_49 : decode cX4_winner 49 = .ok (.iadd, 1) := by decide +kernel
theorem dX4_winner_50 : decode cX4_winner 50 = .ok (.iaload, 1) := by decide +kernel
theorem dX4_winner_51 : decode cX4_winner 51 = .ok (.if_icmp .le 5, 3) := by decide +kernel
theorem dX4_winner_54 : decode cX4_winner 54 = .ok (.iload_n 3, 1) := by decide +kernel
theorem dX4_winner_55 : decode cX4_winner 55 = .ok (.istore_n 2, 1) := by decide +kernel
theorem dX4_winner_56 : decode cX4_winner 56 = .ok (.iinc 3 1, 3) := by decide +kernel
theorem dX4_winner_59 : decode cX4_winner 59 = .ok (.goto (-55), 3) := by decide +kernel
theorem dX4_winner_62 : decode cX4_winner 62 = .ok (.iload_n 2, 1) := by decide +kernel
theorem dX4_winner_63 : decode cX4_winner 63 = .ok (.ireturn, 1) := by decide +kernel
set_option maxRecDepth 20000 in
theorem ggX4_rank_X4_winner : GoodIn wsX4_rank wsX4_winner := goodIn_r _ [8, 9, 2, 10, 11, 12, 13, 14, 15, 16, 17, 18, 19, 20, 21, 22, 23, 24, 25, 26, 27, 28, 29, 30, 31, 32, 33, 34, 35] (by decide +kernel) (by decide +kernel)
set_option maxRecDepth 20000 in
theorem gX4_rank_X4_winner : GoodIn wsX4_rank (wsV RX4 116 RX4 yX4_winner wsX4_winner) := goodIn_app (goodIn_of _ (by decide +kernel)) ggX4_rank_X4_winner
theorem dX4_rank_0 : decode cX4_rank 0 = .ok (.iconst 0, 1) := by decide +kernel
theorem dX4_rank_1 : decode cX4_rank 1 = .ok (.istore_n 2, 1) := by decide +kernel
theorem dX4_rank_2 : decode cX4_rank 2 = .ok (.iconst 0, 1) := by decide +kernel
theorem dX4_rank_3 : decode cX4_rank 3 = .ok (.istore_n 3, 1) := by decide +kernel
theorem dX4_rank_4 : decode cX4_rank 4 = .ok (.iconst 0, 1) := by decide +kernel
theorem dX4_rank_5 : decode cX4_rank 5 = .ok (.istore 4, 2) := by decide +kernel
theorem dX4_rank_7 : decode cX4_rank 7 = .ok (.iload 4, 2) := by decide +kernel
theorem dX4_rank_9 : decode cX4_rank 9 = .ok (.aload_n 0, 1) := by decide +kernel
theorem dX4_rank_10 : decode cX4_rank 10 = .ok (.getfield 107, 3) := by decide +kernel
theorem dX4_rank_13 : decode cX4_rank 13 = .ok (.if_icmp .ge 67, 3) := by decide +kernel
theorem dX4_rank_16 : decode cX4_rank 16 = .ok (.aload_n 0, 1) := by decide +kernel
theorem dX4_rank_17 : decode cX4_rank 17 = .ok (.getfield 50, 3) := by decide +kernel
theorem dX4_rank_20 : decode cX4_rank 20 = .ok (.bipush 10, 2) := by decide +kernel
theorem dX4_rank_22 : decode cX4_rank 22 = .ok (.iload 4, 2) := by decide +kernel
theorem dX4_rank_24 : decode cX4_rank 24 = .ok (.imul, 1) := by decide +kernel
theorem dX4_rank_25 : decode cX4_rank 25 = .ok (.iload_n 1, 1) := by decide +kernel
theorem dX4_rank_26 : decode cX4_rank 26 = .ok (.iadd, 1) := by decide +kernel
theorem dX4_rank_27 : decode cX4_rank 27 = .ok (.iaload, 1) := by decide +kernel
theorem dX4_rank_28 : decode cX4_rank 28 = .ok (.istore 5, 2) := by decide +kernel
theorem dX4_rank_30 : decode cX4_rank 30 = .ok (.iload 5, 2) := by decide +kernel
theorem dX4_rank_32 : decode cX4_rank 32 = .ok (.sipush 5000, 3) := by decide +kernel
theorem dX4_rank_35 : decode cX4_rank 35 = .ok (.if_icmp .eq 39, 3) := by decide +kernel
theorem dX4_rank_38 : decode cX4_rank 38 = .ok (.iinc 2 1, 3) := by decide +kernel
theorem dX4_rank_41 : decode cX4_rank 41 = .ok (.iload_n 3, 1) := by decide +kernel
theorem dX4_rank_42 : decode cX4_rank 42 = .ok (.aload_n 0, 1) := by decide +kernel
theorem dX4_rank_43 : decode cX4_rank 43 = .ok (.getfield 50, 3) := by decide +kernel
theorem dX4_rank_46 : decode cX4_rank 46 = .ok (.bipush 10, 2) := by decide +kernel
theorem dX4_rank_48 : decode cX4_rank 48 = .ok (.iload 4, 2) := by decide +kernel
theorem dX4_rank_50 : decode cX4_rank 50 = .ok (.imul, 1) := by decide +kernel
theorem dX4_rank_51 : decode cX4_rank 51 = .ok (.aload_n 0, 1) := by decide +kernel
theorem dX4_rank_52 : decode cX4_rank 52 = .ok (.iload 4, 2) := by decide +kernel
theorem dX4_rank_54 : decode cX4_rank 54 = .ok (.invokevirtual 116, 3) := by decide +kernel
theorem dX4_rank_57 : decode cX4_rank 57 = .ok (.iadd, 1) := by decide +kernel
theorem dX4_rank_58 : decode cX4_rank 58 = .ok (.iaload, 1) := by decide +kernel
theorem dX4_rank_59 : decode cX4_rank 59 = .ok (.iload 5, 2) := by decide +kernel
theorem dX4_rank_61 : decode cX4_rank 61 = .ok (.isub, 1) := by decide +kernel
theorem dX4_rank_62 : decode cX4_rank 62 = .ok (.bipush 100, 2) := by decide +kernel
theorem dX4_rank_64 : decode cX4_rank 64 = .ok (.if_icmp .le 7, 3) := by decide +kernel
theorem dX4_rank_67 : decode cX4_rank 67 = .ok (.iconst 1, 1) := by decide +kernel
theorem dX4_rank_68 : decode cX4_rank 68 = .ok (.goto 4, 3) := by decide +kernel
theorem dX4_rank_71 : decode cX4_rank 71 = .ok (.iconst 0, 1) := by decide +kernel
theorem dX4_rank_72 : decode cX4_rank 72 = .ok (.iadd, 1) := by decide +kernel
theorem dX4_rank_73 : decode cX4_rank 73 = .ok (.istore_n 3, 1) := by decide +kernel
theorem dX4_rank_74 : decode cX4_rank 74 = .ok (.iinc 4 1, 3) := by decide +kernel
theorem dX4_rank_77 : decode cX4_rank 77 = .ok (.goto (-70), 3) := by decide +kernel
theorem dX4_rank_80 : decode cX4_rank 80 = .ok (.aload_n 0, 1) := by decide +kernel
theorem dX4_rank_81 : decode cX4_rank 81 = .ok (.getfield 28, 3) := by decide +kernel
theorem dX4_rank_84 : decode cX4_rank 84 = .ok (.iload_n 1, 1) := by decide +kernel
theorem dX4_rank_85 : decode cX4_rank 85 = .ok (.iconst 2, 1) := by decide +kernel
theorem dX4_rank_86 : decode cX4_rank 86 = .ok (.iload_n 2, 1) := by decide +kernel
theorem dX4_rank_87 : decode cX4_rank 87 = .ok (.imul, 1) := by decide +kernel
theorem dX4_rank_88 : decode cX4_rank 88 = .ok (.aload_n 0, 1) := by decide +kernel
theorem dX4_rank_89 : decode cX4_rank 89 = .ok (.getfield 107, 3) := by decide +kernel
theorem dX4_rank_92 : decode cX4_rank 92 = .ok (.if_icmp .lt 10, 3) := by decide +kernel
theorem dX4_rank_95 : decode cX4_rank 95 = .ok (.iconst 2, 1) := by decide +kernel
theorem dX4_rank_96 : decode cX4_rank 96 = .ok (.iload_n 3, 1) := by decide +kernel
theorem dX4_rank_97 : decode cX4_rank 97 = .ok (.imul, 1) := by decide +kernel
theorem dX4_rank_98 : decode cX4_rank 98 = .ok (.iload_n 2, 1) := by decide +kernel
theorem dX4_rank_99 : decode cX4_rank 99 = .ok (.if_icmp .le 7, 3) := by decide +kernel
theorem dX4_rank_102 : decode cX4_rank 102 = .ok (.iconst 1, 1) := by decide +kernel
theorem dX4_rank_103 : decode cX4_rank 103 = .ok (.goto 4, 3) := by decide +kernel
theorem dX4_rank_106 : decode cX4_rank 106 = .ok (.iconst 0, 1) := by decide +kernel
theorem dX4_rank_107 : decode cX4_rank 107 = .ok (.iastore, 1) := by decide +kernel
theorem dX4_rank_108 : decode cX4_rank 108 = .ok (.return_, 1) := by decide +kernel
set_option maxRecDepth 20000 in
theorem ggX4_eatShares_X4_isActive : GoodIn wsX4_eatShares wsX4_isActive := goodIn_r _ [11, 12, 17, 18, 19, 20, 21, 22, 23, 24, 25, 26, 27, 28, 29, 30, 31, 32, 33, 34, 35, 36, 37, 38, 39, 40, 41, 42] (by decide +kernel) (by decide +kernel)
set_option maxRecDepth 20000 in
theorem gX4_eatShares_X4_isActive : GoodIn wsX4_eatShares (wsV RX4 90 RX4 yX4_isActive wsX4_isActive) := goodIn_app (goodIn_of _ (by decide +kernel)) ggX4_eatShares_X4_isActive
set_option maxRecDepth 20000 in
theorem ggX4_eatShares_X4_part : GoodIn wsX4_eatShares wsX4_part := goodIn_r _ [16, 1, 2, 5, 6, 17, 18, 19, 20, 21, 22, 23, 24, 25, 26, 27, 28, 29, 30, 31, 32, 33, 34, 35, 36, 37, 38, 39, 40, 41, 42] (by decide +kernel) (by decide +kernel)
set_option maxRecDepth 20000 in
theorem gX4_eatShares_X4_part : GoodIn wsX4_eatShares (wsV RX4 103 RX4 yX4_part wsX4_part) := goodIn_app (goodIn_of _ (by decide +kernel)) ggX4_eatShares_X4_part
theorem dX4_eatShares_0 : decode cX4_eatShares 0 = .ok (.iconst 0, 1) := by decide +kernel
theorem dX4_eatShares_1 : decode cX4_eatShares 1 = .ok (.istore_n 3, 1) := by decide +kernel
theorem dX4_eatShares_2 : decode cX4_eatShares 2 = .ok (.iload_n 3, 1) := by decide +kernel
theorem dX4_eatShares_3 : decode cX4_eatShares 3 = .ok (.aload_n 0, 1) := by decide +kernel
theorem dX4_eatShares_4 : decode cX4_eatShares 4 = .ok (.getfield 68, 3) := by decide +kernel
theorem dX4_eatShares_7 : decode cX4_eatShares 7 = .ok (.if_icmp .ge 55, 3) := by decide +kernel
theorem dX4_eatShares_10 : decode cX4_eatShares 10 = .ok (.aload_n 0, 1) := by decide +kernel
theorem dX4_eatShares_11 : decode cX4_eatShares 11 = .ok (.getfield 56, 3) := by decide +kernel
theorem dX4_eatShares_14 : decode cX4_eatShares 14 = .ok (.iload_n 3, 1) := by decide +kernel
theorem dX4_eatShares_15 : decode cX4_eatShares 15 = .ok (.aload_n 0, 1) := by decide +kernel
theorem dX4_eatShares_16 : decode cX4_eatShares 16 = .ok (.iload_n 3, 1) := by decide +kernel
theorem dX4_eatShares_17 : decode cX4_eatShares 17 = .ok (.invokevirtual 90, 3) := by decide +kernel
theorem dX4_eatShares_20 : decode cX4_eatShares 20 = .ok (.ifCond .eq 22, 3) := by decide +kernel
theorem dX4_eatShares_23 : decode cX4_eatShares 23 = .ok (.aload_n 0, 1) := by decide +kernel
theorem dX4_eatShares_24 : decode cX4_eatShares 24 = .ok (.getfield 28, 3) := by decide +kernel
theorem dX4_eatShares_27 : decode cX4_eatShares 27 = .ok (.iload_n 3, 1) := by decide +kernel
theorem dX4_eatShares_28 : decode cX4_eatShares 28 = .ok (.iaload, 1) := by decide +kernel
theorem dX4_eatShares_29 : decode cX4_eatShares 29 = .ok (.iload_n 2, 1) := by decide +kernel
theorem dX4_eatShares_30 : decode cX4_eatShares 30 = .ok (.if_icmp .ne 12, 3) := by decide +kernel
theorem dX4_eatShares_33 : decode cX4_eatShares 33 = .ok (.aload_n 0, 1) := by decide +kernel
theorem dX4_eatShares_34 : decode cX4_eatShares 34 = .ok (.getfield 13, 3) := by decide +kernel
theorem dX4_eatShares_37 : decode cX4_eatShares 37 = .ok (.iload_n 3, 1) := by decide +kernel
theorem dX4_eatShares_38 : decode cX4_eatShares 38 = .ok (.iaload, 1) := by decide +kernel
theorem dX4_eatShares_39 : decode cX4_eatShares 39 = .ok (.goto 4, 3) := by decide +kernel
theorem dX4_eatShares_42 : decode cX4_eatShares 42 = .ok (.iconst 0, 1) := by decide +kernel
theorem dX4_eatShares_43 : decode cX4_eatShares 43 = .ok (.iastore, 1) := by decide +kernel
theorem dX4_eatShares_44 : decode cX4_eatShares 44 = .ok (.aload_n 0, 1) := by decide +kernel
theorem dX4_eatShares_45 : decode cX4_eatShares 45 = .ok (.getfield 59, 3) := by decide +kernel
theorem dX4_eatShares_48 : decode cX4_eatShares 48 = .ok (.iload_n 3, 1) := by decide +kernel
theorem dX4_eatShares_49 : decode cX4_eatShares 49 = .ok (.aload_n 0, 1) := by decide +kernel
theorem dX4_eatShares_50 : decode cX4_eatShares 50 = .ok (.getfield 56, 3) := by decide +kernel
theorem dX4_eatShares_53 : decode cX4_eatShares 53 = .ok (.iload_n 3, 1) := by decide +kernel
theorem dX4_eatShares_54 : decode cX4_eatShares 54 = .ok (.iaload, 1) := by decide +kernel
theorem dX4_eatShares_55 : decode cX4_eatShares 55 = .ok (.iastore, 1) := by decide +kernel
theorem dX4_eatShares_56 : decode cX4_eatShares 56 = .ok (.iinc 3 1, 3) := by decide +kernel
theorem dX4_eatShares_59 : decode cX4_eatShares 59 = .ok (.goto (-57), 3) := by decide +kernel
theorem dX4_eatShares_62 : decode cX4_eatShares 62 = .ok (.aload_n 0, 1) := by decide +kernel
theorem dX4_eatShares_63 : decode cX4_eatShares 63 = .ok (.iload_n 1, 1) := by decide +kernel
theorem dX4_eatShares_64 : decode cX4_eatShares 64 = .ok (.i2l, 1) := by decide +kernel
theorem dX4_eatShares_65 : decode cX4_eatShares 65 = .ok (.invokevirtual 103, 3) := by decide +kernel
theorem dX4_eatShares_68 : decode cX4_eatShares 68 = .ok (.istore_n 3, 1) := by decide +kernel
theorem dX4_eatShares_69 : decode cX4_eatShares 69 = .ok (.iconst 0, 1) := by decide +kernel
theorem dX4_eatShares_70 : decode cX4_eatShares 70 = .ok (.istore 4, 2) := by decide +kernel
theorem dX4_eatShares_72 : decode cX4_eatShares 72 = .ok (.iload 4, 2) := by decide +kernel
theorem dX4_eatShares_74 : decode cX4_eatShares 74 = .ok (.aload_n 0, 1) := by decide +kernel
theorem dX4_eatShares_75 : decode cX4_eatShares 75 = .ok (.getfield 68, 3) := by decide +kernel
theorem dX4_eatShares_78 : decode cX4_eatShares 78 = .ok (.if_icmp .ge 26, 3) := by decide +kernel
theorem dX4_eatShares_81 : decode cX4_eatShares 81 = .ok (.aload_n 0, 1) := by decide +kernel
theorem dX4_eatShares_82 : decode cX4_eatShares 82 = .ok (.getfield 13, 3) := by decide +kernel
theorem dX4_eatShares_85 : decode cX4_eatShares 85 = .ok (.iload 4, 2) := by decide +kernel
theorem dX4_eatShares_87 : decode cX4_eatShares 87 = .ok (.dup2, 1) := by decide +kernel
theorem dX4_eatShares_88 : decode cX4_eatShares 88 = .ok (.iaload, 1) := by decide +kernel
theorem dX4_eatShares_89 : decode cX4_eatShares 89 = .ok (.aload_n 0, 1) := by decide +kernel
theorem dX4_eatShares_90 : decode cX4_eatShares 90 = .ok (.getfield 62, 3) := by decide +kernel
theorem dX4_eatShares_93 : decode cX4_eatShares 93 = .ok (.iload 4, 2) := by decide +kernel
theorem dX4_eatShares_95 : decode cX4_eatShares 95 = .ok (.iaload, 1) := by decide +kernel
theorem dX4_eatShares_96 : decode cX4_eatShares 96 = .ok (.isub, 1) := by decide +kernel
theorem dX4_eatShares_97 : decode cX4_eatShares 97 = .ok (.iastore, 1) := by decide +kernel
theorem dX4_eatShares_98 : decode cX4_eatShares 98 = .ok (.iinc 4 1, 3) := by decide +kernel
theorem dX4_eatShares_101 : decode cX4_eatShares 101 = .ok (.goto (-29), 3) := by decide +kernel
theorem dX4_eatShares_104 : decode cX4_eatShares 104 = .ok (.iload_n 1, 1) := by decide +kernel
theorem dX4_eatShares_105 : decode cX4_eatShares 105 = .ok (.iload_n 3, 1) := by decide +kernel
theorem dX4_eatShares_106 : decode cX4_eatShares 106 = .ok (.isub, 1) := by decide +kernel
theorem dX4_eatShares_107 : decode cX4_eatShares 107 = .ok (.ireturn, 1) := by decide +kernel
set_option maxRecDepth 20000 in
theorem ggX4_assess_X4_isActive : GoodIn wsX4_assess wsX4_isActive := goodIn_r _ [12, 5, 17, 18, 19, 20, 21, 22, 23, 24, 25, 26, 27, 28, 29, 30, 31, 32, 33, 34, 35, 36, 37, 38, 39, 40, 41, 42] (by decide +kernel) (by decide +kernel)
set_option maxRecDepth 20000 in
theorem gX4_assess_X4_isActive : GoodIn wsX4_assess (wsV RX4 90 RX4 yX4_isActive wsX4_isActive) := goodIn_app (goodIn_of _ (by decide +kernel)) ggX4_assess_X4_isActive
set_option maxRecDepth 20000 in
theorem ggX4_assess_X4_part : GoodIn wsX4_assess wsX4_part := goodIn_r _ [16, 1, 2, 4, 7, 17, 18, 19, 20, 21, 22, 23, 24, 25, 26, 27, 28, 29, 30, 31, 32, 33, 34, 35, 36, 37, 38, 39, 40, 41, 42] (by decide +kernel) (by decide +kernel)
set_option maxRecDepth 20000 in
theorem gX4_assess_X4_part : GoodIn wsX4_assess (wsV RX4 103 RX4 yX4_part wsX4_part) := goodIn_app (goodIn_of _ (by decide +kernel)) ggX4_assess_X4_part
theorem dX4_assess_0 : decode cX4_assess 0 = .ok (.iconst 0, 1) := by decide +kernel
theorem dX4_assess_1 : decode cX4_assess 1 = .ok (.istore_n 2, 1) := by decide +kernel
theorem dX4_assess_2 : decode cX4_assess 2 = .ok (.iload_n 2, 1) := by decide +kernel
theorem dX4_assess_3 : decode cX4_assess 3 = .ok (.aload_n 0, 1) := by decide +kernel
theorem dX4_assess_4 : decode cX4_assess 4 = .ok (.getfield 68, 3) := by decide +kernel
theorem dX4_assess_7 : decode cX4_assess 7 = .ok (.if_icmp .ge 66, 3) := by decide +kernel
theorem dX4_assess_10 : decode cX4_assess 10 = .ok (.aload_n 0, 1) := by decide +kernel
theorem dX4_assess_11 : decode cX4_assess 11 = .ok (.getfield 56, 3) := by decide +kernel
theorem dX4_assess_14 : decode cX4_assess 14 = .ok (.iload_n 2, 1) := by decide +kernel
theorem dX4_assess_15 : decode cX4_assess 15 = .ok (.aload_n 0, 1) := by decide +kernel
theorem dX4_assess_16 : decode cX4_assess 16 = .ok (.iload_n 2, 1) := by decide +kernel
theorem dX4_assess_17 : decode cX4_assess 17 = .ok (.invokevirtual 90, 3) := by decide +kernel
theorem dX4_assess_20 : decode cX4_assess 20 = .ok (.ifCond .eq 12, 3) := by decide +kernel
theorem dX4_assess_23 : decode cX4_assess 23 = .ok (.aload_n 0, 1) := by decide +kernel
theorem dX4_assess_24 : decode cX4_assess 24 = .ok (.getfield 53, 3) := by decide +kernel
theorem dX4_assess_27 : decode cX4_assess 27 = .ok (.iload_n 2, 1) := by decide +kernel
theorem dX4_assess_28 : decode cX4_assess 28 = .ok (.iaload, 1) := by decide +kernel
theorem dX4_assess_29 : decode cX4_assess 29 = .ok (.goto 4, 3) := by decide +kernel
theorem dX4_assess_32 : decode cX4_assess 32 = .ok (.iconst 0, 1) := by decide +kernel
theorem dX4_assess_33 : decode cX4_assess 33 = .ok (.iastore, 1) := by decide +kernel
theorem dX4_assess_34 : decode cX4_assess 34 = .ok (.aload_n 0, 1) := by decide +kernel
theorem dX4_assess_35 : decode cX4_assess 35 = .ok (.getfield 59, 3) := by decide +kernel
theorem dX4_assess_38 : decode cX4_assess 38 = .ok (.iload_n 2, 1) := by decide +kernel
theorem dX4_assess_39 : decode cX4_assess 39 = .ok (.aload_n 0, 1) := by decide +kernel
theorem dX4_assess_40 : decode cX4_assess 40 = .ok (.getfield 25, 3) := by decide +kernel
theorem dX4_assess_43 : decode cX4_assess 43 = .ok (.iload_n 2, 1) := by decide +kernel
theorem dX4_assess_44 : decode cX4_assess 44 = .ok (.iaload, 1) := by decide +kernel
theorem dX4_assess_45 : decode cX4_assess 45 = .ok (.iconst 1, 1) := by decide +kernel
theorem dX4_assess_46 : decode cX4_assess 46 = .ok (.if_icmp .ne 14, 3) := by decide +kernel
theorem dX4_assess_49 : decode cX4_assess 49 = .ok (.aload_n 0, 1) := by decide +kernel
theorem dX4_assess_50 : decode cX4_assess 50 = .ok (.getfield 56, 3) := by decide +kernel
theorem dX4_assess_53 : decode cX4_assess 53 = .ok (.iload_n 2, 1) := by decide +kernel
theorem dX4_assess_54 : decode cX4_assess 54 = .ok (.iaload, 1) := by decide +kernel
theorem dX4_assess_55 : decode cX4_assess 55 = .ok (.iconst 2, 1) := by decide +kernel
theorem dX4_assess_56 : decode cX4_assess 56 = .ok (.idiv, 1) := by decide +kernel
theorem dX4_assess_57 : decode cX4_assess 57 = .ok (.goto 9, 3) := by decide +kernel
theorem dX4_assess_60 : decode cX4_assess 60 = .ok (.aload_n 0, 1) := by decide +kernel
theorem dX4_assess_61 : decode cX4_assess 61 = .ok (.getfield 56, 3) := by decide +kernel
theorem dX4_assess_64 : decode cX4_assess 64 = .ok (.iload_n 2, 1) := by decide +kernel
theorem dX4_assess_65 : decode cX4_assess 65 = .ok (.iaload, 1) := by decide +kernel
theorem dX4_assess_66 : decode cX4_assess 66 = .ok (.iastore, 1) := by decide +kernel
theorem dX4_assess_67 : decode cX4_assess 67 = .ok (.iinc 2 1, 3) := by decide +kernel
theorem dX4_assess_70 : decode cX4_assess 70 = .ok (.goto (-68), 3) := by decide +kernel
theorem dX4_assess_73 : decode cX4_assess 73 = .ok (.aload_n 0, 1) := by decide +kernel
theorem dX4_assess_74 : decode cX4_assess 74 = .ok (.iload_n 1, 1) := by decide +kernel
theorem dX4_assess_75 : decode cX4_assess 75 = .ok (.i2l, 1) := by decide +kernel
theorem dX4_assess_76 : decode cX4_assess 76 = .ok (.invokevirtual 103, 3) := by decide +kernel
theorem dX4_assess_79 : decode cX4_assess 79 = .ok (.istore_n 2, 1) := by decide +kernel
theorem dX4_assess_80 : decode cX4_assess 80 = .ok (.iconst 0, 1) := by decide +kernel
theorem dX4_assess_81 : decode cX4_assess 81 = .ok (.istore_n 3, 1) := by decide +kernel
theorem dX4_assess_82 : decode cX4_assess 82 = .ok (.iload_n 3, 1) := by decide +kernel
theorem dX4_assess_83 : decode cX4_assess 83 = .ok (.aload_n 0, 1) := by decide +kernel
theorem dX4_assess_84 : decode cX4_assess 84 = .ok (.getfield 68, 3) := by decide +kernel
theorem dX4_assess_87 : decode cX4_assess 87 = .ok (.if_icmp .ge 24, 3) := by decide +kernel
theorem dX4_assess_90 : decode cX4_assess 90 = .ok (.aload_n 0, 1) := by decide +kernel
theorem dX4_assess_91 : decode cX4_assess 91 = .ok (.getfield 31, 3) := by decide +kernel
theorem dX4_assess_94 : decode cX4_assess 94 = .ok (.iload_n 3, 1) := by decide +kernel
theorem dX4_assess_95 : decode cX4_assess 95 = .ok (.dup2, 1) := by decide +kernel
theorem dX4_assess_96 : decode cX4_assess 96 = .ok (.iaload, 1) := by decide +kernel
theorem dX4_assess_97 : decode cX4_assess 97 = .ok (.aload_n 0, 1) := by decide +kernel
theorem dX4_assess_98 : decode cX4_assess 98 = .ok (.getfield 62, 3) := by decide +kernel
theorem dX4_assess_101 : decode cX4_assess 101 = .ok (.iload_n 3, 1) := by decide +kernel
theorem dX4_assess_102 : decode cX4_assess 102 = .ok (.iaload, 1) := by decide +kernel
theorem dX4_assess_103 : decode cX4_assess 103 = .ok (.iadd, 1) := by decide +kernel
theorem dX4_assess_104 : decode cX4_assess 104 = .ok (.iastore, 1) := by decide +kernel
theorem dX4_assess_105 : decode cX4_assess 105 = .ok (.iinc 3 1, 3) := by decide +kernel
theorem dX4_assess_108 : decode cX4_assess 108 = .ok (.goto (-26), 3) := by decide +kernel
theorem dX4_assess_111 : decode cX4_assess 111 = .ok (.iload_n 1, 1) := by decide +kernel
theorem dX4_assess_112 : decode cX4_assess 112 = .ok (.iload_n 2, 1) := by decide +kernel
theorem dX4_assess_113 : decode cX4_assess 113 = .ok (.isub, 1) := by decide +kernel
theorem dX4_assess_114 : decode cX4_assess 114 = .ok (.ireturn, 1) := by decide +kernel
set_option maxRecDepth 20000 in
theorem ggX4_cutGains_X4_isActive : GoodIn wsX4_cutGains wsX4_isActive := goodIn_r _ [10, 11, 16, 17, 18, 19, 20, 21, 22, 23, 24, 25, 26, 27, 28, 29, 30, 31, 32, 33, 34, 35, 36, 37, 38, 39, 40, 41] (by decide +kernel) (by decide +kernel)
set_option maxRecDepth 20000 in
theorem gX4_cutGains_X4_isActive : GoodIn wsX4_cutGains (wsV RX4 90 RX4 yX4_isActive wsX4_isActive) := goodIn_app (goodIn_of _ (by decide +kernel)) ggX4_cutGains_X4_isActive
set_option maxRecDepth 20000 in
theorem ggX4_cutGains_X4_part : GoodIn wsX4_cutGains wsX4_part := goodIn_r _ [15, 1, 2, 4, 5, 16, 17, 18, 19, 20, 21, 22, 23, 24, 25, 26, 27, 28, 29, 30, 31, 32, 33, 34, 35, 36, 37, 38, 39, 40, 41] (by decide +kernel) (by decide +kernel)
set_option maxRecDepth 20000 in
theorem gX4_cutGains_X4_part : GoodIn wsX4_cutGains (wsV RX4 103 RX4 yX4_part wsX4_part) := goodIn_app (goodIn_of _ (by decide +kernel)) ggX4_cutGains_X4_part
theorem dX4_cutGains_0 : decode cX4_cutGains 0 = .ok (.iconst 0, 1) := by decide +kernel
theorem dX4_cutGains_1 : decode cX4_cutGains 1 = .ok (.istore_n 2, 1) := by decide +kernel
theorem dX4_cutGains_2 : decode cX4_cutGains 2 = .ok (.iload_n 2, 1) := by decide +kernel
theorem dX4_cutGains_3 : decode cX4_cutGains 3 = .ok (.aload_n 0, 1) := by decide +kernel
theorem dX4_cutGains_4 : decode cX4_cutGains 4 = .ok (.getfield 68, 3) := by decide +kernel
theorem dX4_cutGains_7 : decode cX4_cutGains 7 = .ok (.if_icmp .ge 45, 3) := by decide +kernel
theorem dX4_cutGains_10 : decode cX4_cutGains 10 = .ok (.aload_n 0, 1) := by decide +kernel
theorem dX4_cutGains_11 : decode cX4_cutGains 11 = .ok (.getfield 56, 3) := by decide +kernel
theorem dX4_cutGains_14 : decode cX4_cutGains 14 = .ok (.iload_n 2, 1) := by decide +kernel
theorem dX4_cutGains_15 : decode cX4_cutGains 15 = .ok (.aload_n 0, 1) := by decide +kernel
theorem dX4_cutGains_16 : decode cX4_cutGains 16 = .ok (.iload_n 2, 1) := by decide +kernel
theorem dX4_cutGains_17 : decode cX4_cutGains 17 = .ok (.invokevirtual 90, 3) := by decide +kernel
theorem dX4_cutGains_20 : decode cX4_cutGains 20 = .ok (.ifCond .eq 12, 3) := by decide +kernel
theorem dX4_cutGains_23 : decode cX4_cutGains 23 = .ok (.aload_n 0, 1) := by decide +kernel
theorem dX4_cutGains_24 : decode cX4_cutGains 24 = .ok (.getfield 19, 3) := by decide +kernel
theorem dX4_cutGains_27 : decode cX4_cutGains 27 = .ok (.iload_n 2, 1) := by decide +kernel
theorem dX4_cutGains_28 : decode cX4_cutGains 28 = .ok (.iaload, 1) := by decide +kernel
theorem dX4_cutGains_29 : decode cX4_cutGains 29 = .ok (.goto 4, 3) := by decide +kernel
theorem dX4_cutGains_32 : decode cX4_cutGains 32 = .ok (.iconst 0, 1) := by decide +kernel
theorem dX4_cutGains_33 : decode cX4_cutGains 33 = .ok (.iastore, 1) := by decide +kernel
theorem dX4_cutGains_34 : decode cX4_cutGains 34 = .ok (.aload_n 0, 1) := by decide +kernel
theorem dX4_cutGains_35 : decode cX4_cutGains 35 = .ok (.getfield 59, 3) := by decide +kernel
theorem dX4_cutGains_38 : decode cX4_cutGains 38 = .ok (.iload_n 2, 1) := by decide +kernel
theorem dX4_cutGains_39 : decode cX4_cutGains 39 = .ok (.aload_n 0, 1) := by decide +kernel
theorem dX4_cutGains_40 : decode cX4_cutGains 40 = .ok (.getfield 56, 3) := by decide +kernel
theorem dX4_cutGains_43 : decode cX4_cutGains 43 = .ok (.iload_n 2, 1) := by decide +kernel
theorem dX4_cutGains_44 : decode cX4_cutGains 44 = .ok (.iaload, 1) := by decide +kernel
theorem dX4_cutGains_45 : decode cX4_cutGains 45 = .ok (.iastore, 1) := by decide +kernel
theorem dX4_cutGains_46 : decode cX4_cutGains 46 = .ok (.iinc 2 1, 3) := by decide +kernel
theorem dX4_cutGains_49 : decode cX4_cutGains 49 = .ok (.goto (-47), 3) := by decide +kernel
theorem dX4_cutGains_52 : decode cX4_cutGains 52 = .ok (.aload_n 0, 1) := by decide +kernel
theorem dX4_cutGains_53 : decode cX4_cutGains 53 = .ok (.iload_n 1, 1) := by decide +kernel
theorem dX4_cutGains_54 : decode cX4_cutGains 54 = .ok (.i2l, 1) := by decide +kernel
theorem dX4_cutGains_55 : decode cX4_cutGains 55 = .ok (.invokevirtual 103, 3) := by decide +kernel
theorem dX4_cutGains_58 : decode cX4_cutGains 58 = .ok (.istore_n 2, 1) := by decide +kernel
theorem dX4_cutGains_59 : decode cX4_cutGains 59 = .ok (.iconst 0, 1) := by decide +kernel
theorem dX4_cutGains_60 : decode cX4_cutGains 60 = .ok (.istore_n 3, 1) := by decide +kernel
theorem dX4_cutGains_61 : decode cX4_cutGains 61 = .ok (.iload_n 3, 1) := by decide +kernel
theorem dX4_cutGains_62 : decode cX4_cutGains 62 = .ok (.aload_n 0, 1) := by decide +kernel
theorem dX4_cutGains_63 : decode cX4_cutGains 63 = .ok (.getfield 68, 3) := by decide +kernel
theorem dX4_cutGains_66 : decode cX4_cutGains 66 = .ok (.if_icmp .ge 24, 3) := by decide +kernel
theorem dX4_cutGains_69 : decode cX4_cutGains 69 = .ok (.aload_n 0, 1) := by decide +kernel
theorem dX4_cutGains_70 : decode cX4_cutGains 70 = .ok (.getfield 19, 3) := by decide +kernel
theorem dX4_cutGains_73 : decode cX4_cutGains 73 = .ok (.iload_n 3, 1) := by decide +kernel
theorem dX4_cutGains_74 : decode cX4_cutGains 74 = .ok (.dup2, 1) := by decide +kernel
theorem dX4_cutGains_75 : decode cX4_cutGains 75 = .ok (.iaload, 1) := by decide +kernel
theorem dX4_cutGains_76 : decode cX4_cutGains 76 = .ok (.aload_n 0, 1) := by decide +kernel
theorem dX4_cutGains_77 : decode cX4_cutGains 77 = .ok (.getfield 62, 3) := by decide +kernel
theorem dX4_cutGains_80 : decode cX4_cutGains 80 = .ok (.iload_n 3, 1) := by decide +kernel
theorem dX4_cutGains_81 : decode cX4_cutGains 81 = .ok (.iaload, 1) := by decide +kernel
theorem dX4_cutGains_82 : decode cX4_cutGains 82 = .ok (.isub, 1) := by decide +kernel
theorem dX4_cutGains_83 : decode cX4_cutGains 83 = .ok (.iastore, 1) := by decide +kernel
theorem dX4_cutGains_84 : decode cX4_cutGains 84 = .ok (.iinc 3 1, 3) := by decide +kernel
theorem dX4_cutGains_87 : decode cX4_cutGains 87 = .ok (.goto (-26), 3) := by decide +kernel
theorem dX4_cutGains_90 : decode cX4_cutGains 90 = .ok (.iload_n 1, 1) := by decide +kernel
theorem dX4_cutGains_91 : decode cX4_cutGains 91 = .ok (.iload_n 2, 1) := by decide +kernel
theorem dX4_cutGains_92 : decode cX4_cutGains 92 = .ok (.isub, 1) := by decide +kernel
theorem dX4_cutGains_93 : decode cX4_cutGains 93 = .ok (.ireturn, 1) := by decide +kernel
theorem dX4_empty_0 : decode cX4_empty 0 = .ok (.aload_n 0, 1) := by decide +kernel
theorem dX4_empty_1 : decode cX4_empty 1 = .ok (.getfield 25, 3) := by decide +kernel
theorem dX4_empty_4 : decode cX4_empty 4 = .ok (.iload_n 1, 1) := by decide +kernel
theorem dX4_empty_5 : decode cX4_empty 5 = .ok (.iload_n 2, 1) := by decide +kernel
theorem dX4_empty_6 : decode cX4_empty 6 = .ok (.iastore, 1) := by decide +kernel
theorem dX4_empty_7 : decode cX4_empty 7 = .ok (.aload_n 0, 1) := by decide +kernel
theorem dX4_empty_8 : decode cX4_empty 8 = .ok (.getfield 7, 3) := by decide +kernel
theorem dX4_empty_11 : decode cX4_empty 11 = .ok (.iload_n 1, 1) := by decide +kernel
theorem dX4_empty_12 : decode cX4_empty 12 = .ok (.iconst 0, 1) := by decide +kernel
theorem dX4_empty_13 : decode cX4_empty 13 = .ok (.iastore, 1) := by decide +kernel
theorem dX4_empty_14 : decode cX4_empty 14 = .ok (.aload_n 0, 1) := by decide +kernel
theorem dX4_empty_15 : decode cX4_empty 15 = .ok (.getfield 13, 3) := by decide +kernel
theorem dX4_empty_18 : decode cX4_empty 18 = .ok (.iload_n 1, 1) := by decide +kernel
theorem dX4_empty_19 : decode cX4_empty 19 = .ok (.iconst 0, 1) := by decide +kernel
theorem dX4_empty_20 : decode cX4_empty 20 = .ok (.iastore, 1) := by decide +kernel
theorem dX4_empty_21 : decode cX4_empty 21 = .ok (.aload_n 0, 1) := by decide +kernel
theorem dX4_empty_22 : decode cX4_empty 22 = .ok (.getfield 19, 3) := by decide +kernel
theorem dX4_empty_25 : decode cX4_empty 25 = .ok (.iload_n 1, 1) := by decide +kernel
theorem dX4_empty_26 : decode cX4_empty 26 = .ok (.iconst 0, 1) := by decide +kernel
theorem dX4_empty_27 : decode cX4_empty 27 = .ok (.iastore, 1) := by decide +kernel
theorem dX4_empty_28 : decode cX4_empty 28 = .ok (.iconst 0, 1) := by decide +kernel
theorem dX4_empty_29 : decode cX4_empty 29 = .ok (.istore_n 3, 1) := by decide +kernel
theorem dX4_empty_30 : decode cX4_empty 30 = .ok (.iload_n 3, 1) := by decide +kernel
theorem dX4_empty_31 : decode cX4_empty 31 = .ok (.aload_n 0, 1) := by decide +kernel
theorem dX4_empty_32 : decode cX4_empty 32 = .ok (.getfield 80, 3) := by decide +kernel
theorem dX4_empty_35 : decode cX4_empty 35 = .ok (.if_icmp .ge 35, 3) := by decide +kernel
theorem dX4_empty_38 : decode cX4_empty 38 = .ok (.aload_n 0, 1) := by decide +kernel
theorem dX4_empty_39 : decode cX4_empty 39 = .ok (.getfield 37, 3) := by decide +kernel
theorem dX4_empty_42 : decode cX4_empty 42 = .ok (.iload_n 3, 1) := by decide +kernel
theorem dX4_empty_43 : decode cX4_empty 43 = .ok (.aload_n 0, 1) := by decide +kernel
theorem dX4_empty_44 : decode cX4_empty 44 = .ok (.getfield 37, 3) := by decide +kernel
theorem dX4_empty_47 : decode cX4_empty 47 = .ok (.iload_n 3, 1) := by decide +kernel
theorem dX4_empty_48 : decode cX4_empty 48 = .ok (.iaload, 1) := by decide +kernel
theorem dX4_empty_49 : decode cX4_empty 49 = .ok (.iload_n 1, 1) := by decide +kernel
theorem dX4_empty_50 : decode cX4_empty 50 = .ok (.if_icmp .ne 7, 3) := by decide +kernel
theorem dX4_empty_53 : decode cX4_empty 53 = .ok (.iconst (-1), 1) := by decide +kernel
theorem dX4_empty_54 : decode cX4_empty 54 = .ok (.goto 9, 3) := by decide +kernel
theorem dX4_empty_57 : decode cX4_empty 57 = .ok (.aload_n 0, 1) := by decide +kernel
theorem dX4_empty_58 : decode cX4_empty 58 = .ok (.getfield 37, 3) := by decide +kernel
theorem dX4_empty_61 : decode cX4_empty 61 = .ok (.iload_n 3, 1) := by decide +kernel
theorem dX4_empty_62 : decode cX4_empty 62 = .ok (.iaload, 1) := by decide +kernel
theorem dX4_empty_63 : decode cX4_empty 63 = .ok (.iastore, 1) := by decide +kernel
theorem dX4_empty_64 : decode cX4_empty 64 = .ok (.iinc 3 1, 3) := by decide +kernel
theorem dX4_empty_67 : decode cX4_empty 67 = .ok (.goto (-37), 3) := by decide +kernel
theorem dX4_empty_70 : decode cX4_empty 70 = .ok (.return_, 1) := by decide +kernel
set_option maxRecDepth 20000 in
theorem ggX4_close_X4_fails : GoodIn wsX4_close wsX4_fails := goodIn_r _ [17, 1, 59, 60, 61, 62, 63, 64, 65, 66, 67, 68, 69, 70, 71, 72, 73, 74, 75, 76, 77, 78, 79, 80, 81, 82, 83, 84] (by decide +kernel) (by decide +kernel)
set_option maxRecDepth 20000 in
theorem gX4_close_X4_fails : GoodIn wsX4_close (wsV RX4 76 RX4 yX4_fails wsX4_fails) := goodIn_app (goodIn_of _ (by decide +kernel)) ggX4_close_X4_fails
set_option maxRecDepth 20000 in
theorem ggX4_close_X4_winner : GoodIn wsX4_close wsX4_winner := goodIn_r _ [21, 6, 4, 59, 60, 61, 62, 63, 64, 65, 66, 67, 68, 69, 70, 71, 72, 73, 74, 75, 76, 77, 78, 79, 80, 81, 82, 83, 84] (by decide +kernel) (by decide +kernel)
set_option maxRecDepth 20000 in
theorem gX4_close_X4_winner : GoodIn wsX4_close (wsV RX4 116 RX4 yX4_winner wsX4_winner) := goodIn_app (goodIn_of _ (by decide +kernel)) ggX4_close_X4_winner
set_option maxRecDepth 20000 in
theorem ggX4_close_X4_isActive : GoodIn wsX4_close wsX4_isActive := goodIn_r _ [25, 12, 59, 60, 61, 62, 63, 64, 65, 66, 67, 68, 69, 70, 71, 72, 73, 74, 75, 76, 77, 78, 79, 80, 81, 82, 83, 84] (by decide +kernel) (by decide +kernel)
set_option maxRecDepth 20000 in
theorem gX4_close_X4_isActive : GoodIn wsX4_close (wsV RX4 90 RX4 yX4_isActive wsX4_isActive) := goodIn_app (goodIn_of _ (by decide +kernel)) ggX4_close_X4_isActive
set_option maxRecDepth 20000 in
theorem ggX4_close_X4_rank : GoodIn wsX4_close wsX4_rank := goodIn_r _ [29, 3, 4, 30, 18, 19, 20, 16, 21, 6, 59, 60, 61, 62, 63, 64, 65, 66, 67, 68, 69, 70, 71, 72, 73, 74, 75, 76, 77, 78, 79, 80, 81, 82, 83, 84] (by decide +kernel) (by decide +kernel)
set_option maxRecDepth 20000 in
theorem gX4_close_X4_rank : GoodIn wsX4_close (wsV RX4 119 RX4 yX4_rank wsX4_rank) := goodIn_app (goodIn_of _ (by decide +kernel)) ggX4_close_X4_rank
set_option maxRecDepth 20000 in
theorem ggX4_close_X4_eatShares : GoodIn wsX4_close wsX4_eatShares := goodIn_r _ [34, 6, 35, 30, 9, 36, 37, 22, 23, 24, 16, 25, 12, 38, 39, 40, 41, 59, 60, 61, 62, 63, 64, 65, 66, 67, 68, 69, 70, 71, 72, 73, 74, 75, 76, 77, 78, 79, 80, 81, 82, 83, 84] (by decide +kernel) (by decide +kernel)
set_option maxRecDepth 20000 in
theorem gX4_close_X4_eatShares : GoodIn wsX4_close (wsV RX4 126 RX4 yX4_eatShares wsX4_eatShares) := goodIn_app (goodIn_of _ (by decide +kernel)) ggX4_close_X4_eatShares
set_option maxRecDepth 20000 in
theorem ggX4_close_X4_assess : GoodIn wsX4_close wsX4_assess := goodIn_r _ [45, 6, 35, 46, 36, 12, 47, 37, 22, 23, 24, 16, 25, 38, 39, 40, 41, 59, 60, 61, 62, 63, 64, 65, 66, 67, 68, 69, 70, 71, 72, 73, 74, 75, 76, 77, 78, 79, 80, 81, 82, 83, 84] (by decide +kernel) (by decide +kernel)
set_option maxRecDepth 20000 in
theorem gX4_close_X4_assess : GoodIn wsX4_close (wsV RX4 130 RX4 yX4_assess wsX4_assess) := goodIn_app (goodIn_of _ (by decide +kernel)) ggX4_close_X4_assess
set_option maxRecDepth 20000 in
theorem ggX4_close_X4_cutGains : GoodIn wsX4_close wsX4_cutGains := goodIn_r _ [51, 6, 35, 52, 36, 37, 22, 23, 24, 16, 25, 12, 38, 39, 40, 41, 59, 60, 61, 62, 63, 64, 65, 66, 67, 68, 69, 70, 71, 72, 73, 74, 75, 76, 77, 78, 79, 80, 81, 82, 83, 84] (by decide +kernel) (by decide +kernel)
set_option maxRecDepth 20000 in
theorem gX4_close_X4_cutGains : GoodIn wsX4_close (wsV RX4 133 RX4 yX4_cutGains wsX4_cutGains) := goodIn_app (goodIn_of _ (by decide +kernel)) ggX4_close_X4_cutGains
set_option maxRecDepth 20000 in
theorem ggX4_close_X4_empty : GoodIn wsX4_close wsX4_empty := goodIn_r _ [56, 12, 8, 9, 52, 57, 58, 59, 60, 61, 62, 63, 64, 65, 66, 67, 68, 69, 70, 71, 72, 73, 74, 75, 76, 77, 78, 79, 80, 81, 82, 83, 84] (by decide +kernel) (by decide +kernel)
set_option maxRecDepth 20000 in
theorem gX4_close_X4_empty : GoodIn wsX4_close (wsV RX4 139 RX4 yX4_empty wsX4_empty) := goodIn_app (goodIn_of _ (by decide +kernel)) ggX4_close_X4_empty
theorem dX4_close_0 : decode cX4_close 0 = .ok (.aload_n 0, 1) := by decide +kernel
theorem dX4_close_1 : decode cX4_close 1 = .ok (.iconst 0, 1) := by decide +kernel
theorem dX4_close_2 : decode cX4_close 2 = .ok (.putfield 65, 3) := by decide +kernel
theorem dX4_close_5 : decode cX4_close 5 = .ok (.aload_n 0, 1) := by decide +kernel
theorem dX4_close_6 : decode cX4_close 6 = .ok (.getfield 46, 3) := by decide +kernel
theorem dX4_close_9 : decode cX4_close 9 = .ok (.iconst (-1), 1) := by decide +kernel
theorem dX4_close_10 : decode cX4_close 10 = .ok (.if_icmp .ne 9, 3) := by decide +kernel
theorem dX4_close_13 : decode cX4_close 13 = .ok (.aload_n 0, 1) := by decide +kernel
theorem dX4_close_14 : decode cX4_close 14 = .ok (.iconst 1, 1) := by decide +kernel
theorem dX4_close_15 : decode cX4_close 15 = .ok (.invokevirtual 76, 3) := by decide +kernel
theorem dX4_close_18 : decode cX4_close 18 = .ok (.ireturn, 1) := by decide +kernel
theorem dX4_close_19 : decode cX4_close 19 = .ok (.iconst 0, 1) := by decide +kernel
theorem dX4_close_20 : decode cX4_close 20 = .ok (.istore_n 1, 1) := by decide +kernel
theorem dX4_close_21 : decode cX4_close 21 = .ok (.iconst 0, 1) := by decide +kernel
theorem dX4_close_22 : decode cX4_close 22 = .ok (.istore_n 2, 1) := by decide +kernel
theorem dX4_close_23 : decode cX4_close 23 = .ok (.iload_n 2, 1) := by decide +kernel
theorem dX4_close_24 : decode cX4_close 24 = .ok (.aload_n 0, 1) := by decide +kernel
theorem dX4_close_25 : decode cX4_close 25 = .ok (.getfield 107, 3) := by decide +kernel
theorem dX4_close_28 : decode cX4_close 28 = .ok (.if_icmp .ge 56, 3) := by decide +kernel
theorem dX4_close_31 : decode cX4_close 31 = .ok (.aload_n 0, 1) := by decide +kernel
theorem dX4_close_32 : decode cX4_close 32 = .ok (.iload_n 2, 1) := by decide +kernel
theorem dX4_close_33 : decode cX4_close 33 = .ok (.invokevirtual 116, 3) := by decide +kernel
theorem dX4_close_36 : decode cX4_close 36 = .ok (.istore_n 3, 1) := by decide +kernel
theorem dX4_close_37 : decode cX4_close 37 = .ok (.iload_n 1, 1) := by decide +kernel
theorem dX4_close_38 : decode cX4_close 38 = .ok (.iload_n 3, 1) := by decide +kernel
theorem dX4_close_39 : decode cX4_close 39 = .ok (.iconst (-1), 1) := by decide +kernel
theorem dX4_close_40 : decode cX4_close 40 = .ok (.if_icmp .ne 9, 3) := by decide +kernel
theorem dX4_close_43 : decode cX4_close 43 = .ok (.sipush 1000, 3) := by decide +kernel
theorem dX4_close_46 : decode cX4_close 46 = .ok (.goto 15, 3) := by decide +kernel
theorem dX4_close_49 : decode cX4_close 49 = .ok (.aload_n 0, 1) := by decide +kernel
theorem dX4_close_50 : decode cX4_close 50 = .ok (.getfield 50, 3) := by decide +kernel
theorem dX4_close_53 : decode cX4_close 53 = .ok (.bipush 10, 2) := by decide +kernel
theorem dX4_close_55 : decode cX4_close 55 = .ok (.iload_n 2, 1) := by decide +kernel
theorem dX4_close_56 : decode cX4_close 56 = .ok (.imul, 1) := by decide +kernel
theorem dX4_close_57 : decode cX4_close 57 = .ok (.iload_n 3, 1) := by decide +kernel
theorem dX4_close_58 : decode cX4_close 58 = .ok (.iadd, 1) := by decide +kernel
theorem dX4_close_59 : decode cX4_close 59 = .ok (.iaload, 1) := by decide +kernel
theorem dX4_close_60 : decode cX4_close 60 = .ok (.ineg, 1) := by decide +kernel
theorem dX4_close_61 : decode cX4_close 61 = .ok (.iadd, 1) := by decide +kernel
theorem dX4_close_62 : decode cX4_close 62 = .ok (.istore_n 1, 1) := by decide +kernel
theorem dX4_close_63 : decode cX4_close 63 = .ok (.iload_n 3, 1) := by decide +kernel
theorem dX4_close_64 : decode cX4_close 64 = .ok (.iconst (-1), 1) := by decide +kernel
theorem dX4_close_65 : decode cX4_close 65 = .ok (.if_icmp .eq 13, 3) := by decide +kernel
theorem dX4_close_68 : decode cX4_close 68 = .ok (.aload_n 0, 1) := by decide +kernel
theorem dX4_close_69 : decode cX4_close 69 = .ok (.getfield 34, 3) := by decide +kernel
theorem dX4_close_72 : decode cX4_close 72 = .ok (.iload_n 3, 1) := by decide +kernel
theorem dX4_close_73 : decode cX4_close 73 = .ok (.dup2, 1) := by decide +kernel
theorem dX4_close_74 : decode cX4_close 74 = .ok (.iaload, 1) := by decide +kernel
theorem dX4_close_75 : decode cX4_close 75 = .ok (.iconst 1, 1) := by decide +kernel
theorem dX4_close_76 : decode cX4_close 76 = .ok (.iadd, 1) := by decide +kernel
theorem dX4_close_77 : decode cX4_close 77 = .ok (.iastore, 1) := by decide +kernel
theorem dX4_close_78 : decode cX4_close 78 = .ok (.iinc 2 1, 3) := by decide +kernel
theorem dX4_close_81 : decode cX4_close 81 = .ok (.goto (-58), 3) := by decide +kernel
theorem dX4_close_84 : decode cX4_close 84 = .ok (.iconst 0, 1) := by decide +kernel
theorem dX4_close_85 : decode cX4_close 85 = .ok (.istore_n 2, 1) := by decide +kernel
theorem dX4_close_86 : decode cX4_close 86 = .ok (.iload_n 2, 1) := by decide +kernel
theorem dX4_close_87 : decode cX4_close 87 = .ok (.aload_n 0, 1) := by decide +kernel
theorem dX4_close_88 : decode cX4_close 88 = .ok (.getfield 68, 3) := by decide +kernel
theorem dX4_close_91 : decode cX4_close 91 = .ok (.if_icmp .ge 22, 3) := by decide +kernel
theorem dX4_close_94 : decode cX4_close 94 = .ok (.aload_n 0, 1) := by decide +kernel
theorem dX4_close_95 : decode cX4_close 95 = .ok (.iload_n 2, 1) := by decide +kernel
theorem dX4_close_96 : decode cX4_close 96 = .ok (.invokevirtual 90, 3) := by decide +kernel
theorem dX4_close_99 : decode cX4_close 99 = .ok (.ifCond .eq 8, 3) := by decide +kernel
theorem dX4_close_102 : decode cX4_close 102 = .ok (.aload_n 0, 1) := by decide +kernel
theorem dX4_close_103 : decode cX4_close 103 = .ok (.iload_n 2, 1) := by decide +kernel
theorem dX4_close_104 : decode cX4_close 104 = .ok (.invokevirtual 119, 3) := by decide +kernel
theorem dX4_close_107 : decode cX4_close 107 = .ok (.iinc 2 1, 3) := by decide +kernel
theorem dX4_close_110 : decode cX4_close 110 = .ok (.goto (-24), 3) := by decide +kernel
theorem dX4_close_113 : decode cX4_close 113 = .ok (.aload_n 0, 1) := by decide +kernel
theorem dX4_close_114 : decode cX4_close 114 = .ok (.iload_n 1, 1) := by decide +kernel
theorem dX4_close_115 : decode cX4_close 115 = .ok (.ifCond .ge 7, 3) := by decide +kernel
theorem dX4_close_118 : decode cX4_close 118 = .ok (.iconst 0, 1) := by decide +kernel
theorem dX4_close_119 : decode cX4_close 119 = .ok (.goto 4, 3) := by decide +kernel
theorem dX4_close_122 : decode cX4_close 122 = .ok (.iload_n 1, 1) := by decide +kernel
theorem dX4_close_123 : decode cX4_close 123 = .ok (.putfield 123, 3) := by decide +kernel
theorem dX4_close_126 : decode cX4_close 126 = .ok (.aload_n 0, 1) := by decide +kernel
theorem dX4_close_127 : decode cX4_close 127 = .ok (.getfield 123, 3) := by decide +kernel
theorem dX4_close_130 : decode cX4_close 130 = .ok (.istore_n 2, 1) := by decide +kernel
theorem dX4_close_131 : decode cX4_close 131 = .ok (.iload_n 2, 1) := by decide +kernel
theorem dX4_close_132 : decode cX4_close 132 = .ok (.iload_n 2, 1) := by decide +kernel
theorem dX4_close_133 : decode cX4_close 133 = .ok (.aload_n 0, 1) := by decide +kernel
theorem dX4_close_134 : decode cX4_close 134 = .ok (.getfield 7, 3) := by decide +kernel
theorem dX4_close_137 : decode cX4_close 137 = .ok (.aload_n 0, 1) := by decide +kernel
theorem dX4_close_138 : decode cX4_close 138 = .ok (.getfield 46, 3) := by decide +kernel
theorem dX4_close_141 : decode cX4_close 141 = .ok (.iaload, 1) := by decide +kernel
theorem dX4_close_142 : decode cX4_close 142 = .ok (.if_icmp .ge 7, 3) := by decide +kernel
theorem dX4_close_145 : decode cX4_close 145 = .ok (.iload_n 2, 1) := by decide +kernel
theorem dX4_close_146 : decode cX4_close 146 = .ok (.goto 12, 3) := by decide +kernel
theorem dX4_close_149 : decode cX4_close 149 = .ok (.aload_n 0, 1) := by decide +kernel
theorem dX4_close_150 : decode cX4_close 150 = .ok (.getfield 7, 3) := by decide +kernel
theorem dX4_close_153 : decode cX4_close 153 = .ok (.aload_n 0, 1) := by decide +kernel
theorem dX4_close_154 : decode cX4_close 154 = .ok (.getfield 46, 3) := by decide +kernel
theorem dX4_close_157 : decode cX4_close 157 = .ok (.iaload, 1) := by decide +kernel
theorem dX4_close_158 : decode cX4_close 158 = .ok (.isub, 1) := by decide +kernel
theorem dX4_close_159 : decode cX4_close 159 = .ok (.istore_n 2, 1) := by decide +kernel
theorem dX4_close_160 : decode cX4_close 160 = .ok (.iload_n 2, 1) := by decide +kernel
theorem dX4_close_161 : decode cX4_close 161 = .ok (.iload_n 2, 1) := by decide +kernel
theorem dX4_close_162 : decode cX4_close 162 = .ok (.aload_n 0, 1) := by decide +kernel
theorem dX4_close_163 : decode cX4_close 163 = .ok (.getfield 13, 3) := by decide +kernel
theorem dX4_close_166 : decode cX4_close 166 = .ok (.aload_n 0, 1) := by decide +kernel
theorem dX4_close_167 : decode cX4_close 167 = .ok (.getfield 46, 3) := by decide +kernel
theorem dX4_close_170 : decode cX4_close 170 = .ok (.iaload, 1) := by decide +kernel
theorem dX4_close_171 : decode cX4_close 171 = .ok (.if_icmp .ge 7, 3) := by decide +kernel
theorem dX4_close_174 : decode cX4_close 174 = .ok (.iload_n 2, 1) := by decide +kernel
theorem dX4_close_175 : decode cX4_close 175 = .ok (.goto 12, 3) := by decide +kernel
theorem dX4_close_178 : decode cX4_close 178 = .ok (.aload_n 0, 1) := by decide +kernel
theorem dX4_close_179 : decode cX4_close 179 = .ok (.getfield 13, 3) := by decide +kernel
theorem dX4_close_182 : decode cX4_close 182 = .ok (.aload_n 0, 1) := by decide +kernel
theorem dX4_close_183 : decode cX4_close 183 = .ok (.getfield 46, 3) := by decide +kernel
theorem dX4_close_186 : decode cX4_close 186 = .ok (.iaload, 1) := by decide +kernel
theorem dX4_close_187 : decode cX4_close 187 = .ok (.isub, 1) := by decide +kernel
theorem dX4_close_188 : decode cX4_close 188 = .ok (.istore_n 2, 1) := by decide +kernel
theorem dX4_close_189 : decode cX4_close 189 = .ok (.iload_n 2, 1) := by decide +kernel
theorem dX4_close_190 : decode cX4_close 190 = .ok (.aload_n 0, 1) := by decide +kernel
theorem dX4_close_191 : decode cX4_close 191 = .ok (.getfield 99, 3) := by decide +kernel
theorem dX4_close_194 : decode cX4_close 194 = .ok (.if_icmp .ge 7, 3) := by decide +kernel
theorem dX4_close_197 : decode cX4_close 197 = .ok (.iload_n 2, 1) := by decide +kernel
theorem dX4_close_198 : decode cX4_close 198 = .ok (.goto 7, 3) := by decide +kernel
theorem dX4_close_201 : decode cX4_close 201 = .ok (.aload_n 0, 1) := by decide +kernel
theorem dX4_close_202 : decode cX4_close 202 = .ok (.getfield 99, 3) := by decide +kernel
theorem dX4_close_205 : decode cX4_close 205 = .ok (.istore_n 3, 1) := by decide +kernel
theorem dX4_close_206 : decode cX4_close 206 = .ok (.aload_n 0, 1) := by decide +kernel
theorem dX4_close_207 : decode cX4_close 207 = .ok (.dup, 1) := by decide +kernel
theorem dX4_close_208 : decode cX4_close 208 = .ok (.getfield 99, 3) := by decide +kernel
theorem dX4_close_211 : decode cX4_close 211 = .ok (.iload_n 3, 1) := by decide +kernel
theorem dX4_close_212 : decode cX4_close 212 = .ok (.isub, 1) := by decide +kernel
theorem dX4_close_213 : decode cX4_close 213 = .ok (.putfield 99, 3) := by decide +kernel
theorem dX4_close_216 : decode cX4_close 216 = .ok (.iload_n 2, 1) := by decide +kernel
theorem dX4_close_217 : decode cX4_close 217 = .ok (.iload_n 3, 1) := by decide +kernel
theorem dX4_close_218 : decode cX4_close 218 = .ok (.isub, 1) := by decide +kernel
theorem dX4_close_219 : decode cX4_close 219 = .ok (.istore_n 2, 1) := by decide +kernel
theorem dX4_close_220 : decode cX4_close 220 = .ok (.aload_n 0, 1) := by decide +kernel
theorem dX4_close_221 : decode cX4_close 221 = .ok (.iload_n 2, 1) := by decide +kernel
theorem dX4_close_222 : decode cX4_close 222 = .ok (.iconst 1, 1) := by decide +kernel
theorem dX4_close_223 : decode cX4_close 223 = .ok (.invokevirtual 126, 3) := by decide +kernel
theorem dX4_close_226 : decode cX4_close 226 = .ok (.istore_n 2, 1) := by decide +kernel
theorem dX4_close_227 : decode cX4_close 227 = .ok (.aload_n 0, 1) := by decide +kernel
theorem dX4_close_228 : decode cX4_close 228 = .ok (.iload_n 2, 1) := by decide +kernel
theorem dX4_close_229 : decode cX4_close 229 = .ok (.iconst 0, 1) := by decide +kernel
theorem dX4_close_230 : decode cX4_close 230 = .ok (.invokevirtual 126, 3) := by decide +kernel
theorem dX4_close_233 : decode cX4_close 233 = .ok (.istore_n 2, 1) := by decide +kernel
theorem dX4_close_234 : decode cX4_close 234 = .ok (.aload_n 0, 1) := by decide +kernel
theorem dX4_close_235 : decode cX4_close 235 = .ok (.iload_n 2, 1) := by decide +kernel
theorem dX4_close_236 : decode cX4_close 236 = .ok (.invokevirtual 130, 3) := by decide +kernel
theorem dX4_close_239 : decode cX4_close 239 = .ok (.istore_n 2, 1) := by decide +kernel
theorem dX4_close_240 : decode cX4_close 240 = .ok (.aload_n 0, 1) := by decide +kernel
theorem dX4_close_241 : decode cX4_close 241 = .ok (.iload_n 2, 1) := by decide +kernel
theorem dX4_close_242 : decode cX4_close 242 = .ok (.invokevirtual 133, 3) := by decide +kernel
theorem dX4_close_245 : decode cX4_close 245 = .ok (.istore_n 2, 1) := by decide +kernel
theorem dX4_close_246 : decode cX4_close 246 = .ok (.aload_n 0, 1) := by decide +kernel
theorem dX4_close_247 : decode cX4_close 247 = .ok (.dup, 1) := by decide +kernel
theorem dX4_close_248 : decode cX4_close 248 = .ok (.getfield 136, 3) := by decide +kernel
theorem dX4_close_251 : decode cX4_close 251 = .ok (.iload_n 2, 1) := by decide +kernel
theorem dX4_close_252 : decode cX4_close 252 = .ok (.iadd, 1) := by decide +kernel
theorem dX4_close_253 : decode cX4_close 253 = .ok (.putfield 136, 3) := by decide +kernel
theorem dX4_close_256 : decode cX4_close 256 = .ok (.aload_n 0, 1) := by decide +kernel
theorem dX4_close_257 : decode cX4_close 257 = .ok (.aload_n 0, 1) := by decide +kernel
theorem dX4_close_258 : decode cX4_close 258 = .ok (.getfield 46, 3) := by decide +kernel
theorem dX4_close_261 : decode cX4_close 261 = .ok (.iconst 2, 1) := by decide +kernel
theorem dX4_close_262 : decode cX4_close 262 = .ok (.invokevirtual 139, 3) := by decide +kernel
theorem dX4_close_265 : decode cX4_close 265 = .ok (.iconst 0, 1) := by decide +kernel
theorem dX4_close_266 : decode cX4_close 266 = .ok (.istore 4, 2) := by decide +kernel
theorem dX4_close_268 : decode cX4_close 268 = .ok (.iload 4, 2) := by decide +kernel
theorem dX4_close_270 : decode cX4_close 270 = .ok (.aload_n 0, 1) := by decide +kernel
theorem dX4_close_271 : decode cX4_close 271 = .ok (.getfield 68, 3) := by decide +kernel
theorem dX4_close_274 : decode cX4_close 274 = .ok (.if_icmp .ge 27, 3) := by decide +kernel
theorem dX4_close_277 : decode cX4_close 277 = .ok (.aload_n 0, 1) := by decide +kernel
theorem dX4_close_278 : decode cX4_close 278 = .ok (.getfield 25, 3) := by decide +kernel
theorem dX4_close_281 : decode cX4_close 281 = .ok (.iload 4, 2) := by decide +kernel
theorem dX4_close_283 : decode cX4_close 283 = .ok (.iaload, 1) := by decide +kernel
theorem dX4_close_284 : decode cX4_close 284 = .ok (.iconst 1, 1) := by decide +kernel
theorem dX4_close_285 : decode cX4_close 285 = .ok (.if_icmp .ne 10, 3) := by decide +kernel
theorem dX4_close_288 : decode cX4_close 288 = .ok (.aload_n 0, 1) := by decide +kernel
theorem dX4_close_289 : decode cX4_close 289 = .ok (.iload 4, 2) := by decide +kernel
theorem dX4_close_291 : decode cX4_close 291 = .ok (.iconst 3, 1) := by decide +kernel
theorem dX4_close_292 : decode cX4_close 292 = .ok (.invokevirtual 139, 3) := by decide +kernel
theorem dX4_close_295 : decode cX4_close 295 = .ok (.iinc 4 1, 3) := by decide +kernel
theorem dX4_close_298 : decode cX4_close 298 = .ok (.goto (-30), 3) := by decide +kernel
theorem dX4_close_301 : decode cX4_close 301 = .ok (.aload_n 0, 1) := by decide +kernel
theorem dX4_close_302 : decode cX4_close 302 = .ok (.iconst (-1), 1) := by decide +kernel
theorem dX4_close_303 : decode cX4_close 303 = .ok (.putfield 46, 3) := by decide +kernel
theorem dX4_close_306 : decode cX4_close 306 = .ok (.iload_n 2, 1) := by decide +kernel
theorem dX4_close_307 : decode cX4_close 307 = .ok (.ireturn, 1) := by decide +kernel
theorem dX4_members_0 : decode cX4_members 0 = .ok (.aload_n 0, 1) := by decide +kernel
theorem dX4_members_1 : decode cX4_members 1 = .ok (.iconst 0, 1) := by decide +kernel
theorem dX4_members_2 : decode cX4_members 2 = .ok (.putfield 65, 3) := by decide +kernel
theorem dX4_members_5 : decode cX4_members 5 = .ok (.aload_n 0, 1) := by decide +kernel
theorem dX4_members_6 : decode cX4_members 6 = .ok (.getfield 68, 3) := by decide +kernel
theorem dX4_members_9 : decode cX4_members 9 = .ok (.ireturn, 1) := by decide +kernel
set_option maxRecDepth 20000 in
theorem ggX4_state_X4_isMember : GoodIn wsX4_state wsX4_isMember := goodIn_r _ [7, 8, 9, 10, 6, 11, 16, 17, 18, 19, 20, 21, 22, 23, 24, 25, 26, 27, 28, 29, 30, 31, 32, 33, 34, 35, 36, 37, 38, 39, 40, 41] (by decide +kernel) (by decide +kernel)
set_option maxRecDepth 20000 in
theorem gX4_state_X4_isMember : GoodIn wsX4_state (wsV RX4 86 RX4 yX4_isMember wsX4_isMember) := goodIn_app (goodIn_of _ (by decide +kernel)) ggX4_state_X4_isMember
set_option maxRecDepth 20000 in
theorem ggX4_state_X4_fails : GoodIn wsX4_state wsX4_fails := goodIn_r _ [15, 1, 16, 17, 18, 19, 20, 21, 22, 23, 24, 25, 26, 27, 28, 29, 30, 31, 32, 33, 34, 35, 36, 37, 38, 39, 40, 41] (by decide +kernel) (by decide +kernel)
set_option maxRecDepth 20000 in
theorem gX4_state_X4_fails : GoodIn wsX4_state (wsV RX4 76 RX4 yX4_fails wsX4_fails) := goodIn_app (goodIn_of _ (by decide +kernel)) ggX4_state_X4_fails
theorem dX4_state_0 : decode cX4_state 0 = .ok (.aload_n 0, 1) := by decide +kernel
theorem dX4_state_1 : decode cX4_state 1 = .ok (.iconst 0, 1) := by decide +kernel
theorem dX4_state_2 : decode cX4_state 2 = .ok (.putfield 65, 3) := by decide +kernel
theorem dX4_state_5 : decode cX4_state 5 = .ok (.aload_n 0, 1) := by decide +kernel
theorem dX4_state_6 : decode cX4_state 6 = .ok (.iload_n 1, 1) := by decide +kernel
theorem dX4_state_7 : decode cX4_state 7 = .ok (.invokevirtual 86, 3) := by decide +kernel
theorem dX4_state_10 : decode cX4_state 10 = .ok (.ifCond .eq 12, 3) := by decide +kernel
theorem dX4_state_13 : decode cX4_state 13 = .ok (.aload_n 0, 1) := by decide +kernel
theorem dX4_state_14 : decode cX4_state 14 = .ok (.getfield 25, 3) := by decide +kernel
theorem dX4_state_17 : decode cX4_state 17 = .ok (.iload_n 1, 1) := by decide +kernel
theorem dX4_state_18 : decode cX4_state 18 = .ok (.iaload, 1) := by decide +kernel
theorem dX4_state_19 : decode cX4_state 19 = .ok (.goto 8, 3) := by decide +kernel
theorem dX4_state_22 : decode cX4_state 22 = .ok (.aload_n 0, 1) := by decide +kernel
theorem dX4_state_23 : decode cX4_state 23 = .ok (.iconst 1, 1) := by decide +kernel
theorem dX4_state_24 : decode cX4_state 24 = .ok (.invokevirtual 76, 3) := by decide +kernel
theorem dX4_state_27 : decode cX4_state 27 = .ok (.ireturn, 1) := by decide +kernel
set_option maxRecDepth 20000 in
theorem ggX4_margin_X4_isMember : GoodIn wsX4_margin wsX4_isMember := goodIn_r _ [7, 8, 9, 10, 6, 11, 16, 17, 18, 19, 20, 21, 22, 23, 24, 25, 26, 27, 28, 29, 30, 31, 32, 33, 34, 35, 36, 37, 38, 39, 40, 41] (by decide +kernel) (by decide +kernel)
set_option maxRecDepth 20000 in
theorem gX4_margin_X4_isMember : GoodIn wsX4_margin (wsV RX4 86 RX4 yX4_isMember wsX4_isMember) := goodIn_app (goodIn_of _ (by decide +kernel)) ggX4_margin_X4_isMember
set_option maxRecDepth 20000 in
theorem ggX4_margin_X4_fails : GoodIn wsX4_margin wsX4_fails := goodIn_r _ [15, 1, 16, 17, 18, 19, 20, 21, 22, 23, 24, 25, 26, 27, 28, 29, 30, 31, 32, 33, 34, 35, 36, 37, 38, 39, 40, 41] (by decide +kernel) (by decide +kernel)
set_option maxRecDepth 20000 in
theorem gX4_margin_X4_fails : GoodIn wsX4_margin (wsV RX4 76 RX4 yX4_fails wsX4_fails) := goodIn_app (goodIn_of _ (by decide +kernel)) ggX4_margin_X4_fails
theorem dX4_margin_0 : decode cX4_margin 0 = .ok (.aload_n 0, 1) := by decide +kernel
theorem dX4_margin_1 : decode cX4_margin 1 = .ok (.iconst 0, 1) := by decide +kernel
theorem dX4_margin_2 : decode cX4_margin 2 = .ok (.putfield 65, 3) := by decide +kernel
theorem dX4_margin_5 : decode cX4_margin 5 = .ok (.aload_n 0, 1) := by decide +kernel
theorem dX4_margin_6 : decode cX4_margin 6 = .ok (.iload_n 1, 1) := by decide +kernel
theorem dX4_margin_7 : decode cX4_margin 7 = .ok (.invokevirtual 86, 3) := by decide +kernel
theorem dX4_margin_10 : decode cX4_margin 10 = .ok (.ifCond .eq 12, 3) := by decide +kernel
theorem dX4_margin_13 : decode cX4_margin 13 = .ok (.aload_n 0, 1) := by decide +kernel
theorem dX4_margin_14 : decode cX4_margin 14 = .ok (.getfield 7, 3) := by decide +kernel
theorem dX4_margin_17 : decode cX4_margin 17 = .ok (.iload_n 1, 1) := by decide +kernel
theorem dX4_margin_18 : decode cX4_margin 18 = .ok (.iaload, 1) := by decide +kernel
theorem dX4_margin_19 : decode cX4_margin 19 = .ok (.goto 8, 3) := by decide +kernel
theorem dX4_margin_22 : decode cX4_margin 22 = .ok (.aload_n 0, 1) := by decide +kernel
theorem dX4_margin_23 : decode cX4_margin 23 = .ok (.iconst 1, 1) := by decide +kernel
theorem dX4_margin_24 : decode cX4_margin 24 = .ok (.invokevirtual 76, 3) := by decide +kernel
theorem dX4_margin_27 : decode cX4_margin 27 = .ok (.ireturn, 1) := by decide +kernel
set_option maxRecDepth 20000 in
theorem ggX4_share_X4_isMember : GoodIn wsX4_share wsX4_isMember := goodIn_r _ [7, 8, 9, 10, 6, 11, 16, 17, 18, 19, 20, 21, 22, 23, 24, 25, 26, 27, 28, 29, 30, 31, 32, 33, 34, 35, 36, 37, 38, 39, 40, 41] (by decide +kernel) (by decide +kernel)
set_option maxRecDepth 20000 in
theorem gX4_share_X4_isMember : GoodIn wsX4_share (wsV RX4 86 RX4 yX4_isMember wsX4_isMember) := goodIn_app (goodIn_of _ (by decide +kernel)) ggX4_share_X4_isMember
set_option maxRecDepth 20000 in
theorem ggX4_share_X4_fails : GoodIn wsX4_share wsX4_fails := goodIn_r _ [15, 1, 16, 17, 18, 19, 20, 21, 22, 23, 24, 25, 26, 27, 28, 29, 30, 31, 32, 33, 34, 35, 36, 37, 38, 39, 40, 41] (by decide +kernel) (by decide +kernel)
set_option maxRecDepth 20000 in
theorem gX4_share_X4_fails : GoodIn wsX4_share (wsV RX4 76 RX4 yX4_fails wsX4_fails) := goodIn_app (goodIn_of _ (by decide +kernel)) ggX4_share_X4_fails
theorem dX4_share_0 : decode cX4_share 0 = .ok (.aload_n 0, 1) := by decide +kernel
theorem dX4_share_1 : decode cX4_share 1 = .ok (.iconst 0, 1) := by decide +kernel
theorem dX4_share_2 : decode cX4_share 2 = .ok (.putfield 65, 3) := by decide +kernel
theorem dX4_share_5 : decode cX4_share 5 = .ok (.aload_n 0, 1) := by decide +kernel
theorem dX4_share_6 : decode cX4_share 6 = .ok (.iload_n 1, 1) := by decide +kernel
theorem dX4_share_7 : decode cX4_share 7 = .ok (.invokevirtual 86, 3) := by decide +kernel
theorem dX4_share_10 : decode cX4_share 10 = .ok (.ifCond .eq 12, 3) := by decide +kernel
theorem dX4_share_13 : decode cX4_share 13 = .ok (.aload_n 0, 1) := by decide +kernel
theorem dX4_share_14 : decode cX4_share 14 = .ok (.getfield 13, 3) := by decide +kernel
theorem dX4_share_17 : decode cX4_share 17 = .ok (.iload_n 1, 1) := by decide +kernel
theorem dX4_share_18 : decode cX4_share 18 = .ok (.iaload, 1) := by decide +kernel
theorem dX4_share_19 : decode cX4_share 19 = .ok (.goto 8, 3) := by decide +kernel
theorem dX4_share_22 : decode cX4_share 22 = .ok (.aload_n 0, 1) := by decide +kernel
theorem dX4_share_23 : decode cX4_share 23 = .ok (.iconst 1, 1) := by decide +kernel
theorem dX4_share_24 : decode cX4_share 24 = .ok (.invokevirtual 76, 3) := by decide +kernel
theorem dX4_share_27 : decode cX4_share 27 = .ok (.ireturn, 1) := by decide +kernel
set_option maxRecDepth 20000 in
theorem ggX4_gain_X4_isMember : GoodIn wsX4_gain wsX4_isMember := goodIn_r _ [7, 8, 9, 10, 6, 11, 16, 17, 18, 19, 20, 21, 22, 23, 24, 25, 26, 27, 28, 29, 30, 31, 32, 33, 34, 35, 36, 37, 38, 39, 40, 41] (by decide +kernel) (by decide +kernel)
set_option maxRecDepth 20000 in
theorem gX4_gain_X4_isMember : GoodIn wsX4_gain (wsV RX4 86 RX4 yX4_isMember wsX4_isMember) := goodIn_app (goodIn_of _ (by decide +kernel)) ggX4_gain_X4_isMember
set_option maxRecDepth 20000 in
theorem ggX4_gain_X4_fails : GoodIn wsX4_gain wsX4_fails := goodIn_r _ [15, 1, 16, 17, 18, 19, 20, 21, 22, 23, 24, 25, 26, 27, 28, 29, 30, 31, 32, 33, 34, 35, 36, 37, 38, 39, 40, 41] (by decide +kernel) (by decide +kernel)
set_option maxRecDepth 20000 in
theorem gX4_gain_X4_fails : GoodIn wsX4_gain (wsV RX4 76 RX4 yX4_fails wsX4_fails) := goodIn_app (goodIn_of _ (by decide +kernel)) ggX4_gain_X4_fails
theorem dX4_gain_0 : decode cX4_gain 0 = .ok (.aload_n 0, 1) := by decide +kernel
theorem dX4_gain_1 : decode cX4_gain 1 = .ok (.iconst 0, 1) := by decide +kernel
theorem dX4_gain_2 : decode cX4_gain 2 = .ok (.putfield 65, 3) := by decide +kernel
theorem dX4_gain_5 : decode cX4_gain 5 = .ok (.aload_n 0, 1) := by decide +kernel
theorem dX4_gain_6 : decode cX4_gain 6 = .ok (.iload_n 1, 1) := by decide +kernel
theorem dX4_gain_7 : decode cX4_gain 7 = .ok (.invokevirtual 86, 3) := by decide +kernel
theorem dX4_gain_10 : decode cX4_gain 10 = .ok (.ifCond .eq 12, 3) := by decide +kernel
theorem dX4_gain_13 : decode cX4_gain 13 = .ok (.aload_n 0, 1) := by decide +kernel
theorem dX4_gain_14 : decode cX4_gain 14 = .ok (.getfield 19, 3) := by decide +kernel
theorem dX4_gain_17 : decode cX4_gain 17 = .ok (.iload_n 1, 1) := by decide +kernel
theorem dX4_gain_18 : decode cX4_gain 18 = .ok (.iaload, 1) := by decide +kernel
theorem dX4_gain_19 : decode cX4_gain 19 = .ok (.goto 8, 3) := by decide +kernel
theorem dX4_gain_22 : decode cX4_gain 22 = .ok (.aload_n 0, 1) := by decide +kernel
theorem dX4_gain_23 : decode cX4_gain 23 = .ok (.iconst 1, 1) := by decide +kernel
theorem dX4_gain_24 : decode cX4_gain 24 = .ok (.invokevirtual 76, 3) := by decide +kernel
theorem dX4_gain_27 : decode cX4_gain 27 = .ok (.ireturn, 1) := by decide +kernel
set_option maxRecDepth 20000 in
theorem ggX4_isJunior_X4_isMember : GoodIn wsX4_isJunior wsX4_isMember := goodIn_r _ [7, 8, 9, 10, 6, 11, 16, 17, 18, 19, 20, 21, 22, 23, 24, 25, 26, 27, 28, 29, 30, 31, 32, 33, 34, 35, 36, 37, 38, 39, 40, 41] (by decide +kernel) (by decide +kernel)
set_option maxRecDepth 20000 in
theorem gX4_isJunior_X4_isMember : GoodIn wsX4_isJunior (wsV RX4 86 RX4 yX4_isMember wsX4_isMember) := goodIn_app (goodIn_of _ (by decide +kernel)) ggX4_isJunior_X4_isMember
set_option maxRecDepth 20000 in
theorem ggX4_isJunior_X4_fails : GoodIn wsX4_isJunior wsX4_fails := goodIn_r _ [15, 1, 16, 17, 18, 19, 20, 21, 22, 23, 24, 25, 26, 27, 28, 29, 30, 31, 32, 33, 34, 35, 36, 37, 38, 39, 40, 41] (by decide +kernel) (by decide +kernel)
set_option maxRecDepth 20000 in
theorem gX4_isJunior_X4_fails : GoodIn wsX4_isJunior (wsV RX4 76 RX4 yX4_fails wsX4_fails) := goodIn_app (goodIn_of _ (by decide +kernel)) ggX4_isJunior_X4_fails
theorem dX4_isJunior_0 : decode cX4_isJunior 0 = .ok (.aload_n 0, 1) := by decide +kernel
theorem dX4_isJunior_1 : decode cX4_isJunior 1 = .ok (.iconst 0, 1) := by decide +kernel
theorem dX4_isJunior_2 : decode cX4_isJunior 2 = .ok (.putfield 65, 3) := by decide +kernel
theorem dX4_isJunior_5 : decode cX4_isJunior 5 = .ok (.aload_n 0, 1) := by decide +kernel
theorem dX4_isJunior_6 : decode cX4_isJunior 6 = .ok (.iload_n 1, 1) := by decide +kernel
theorem dX4_isJunior_7 : decode cX4_isJunior 7 = .ok (.invokevirtual 86, 3) := by decide +kernel
theorem dX4_isJunior_10 : decode cX4_isJunior 10 = .ok (.ifCond .ne 11, 3) := by decide +kernel
theorem dX4_isJunior_13 : decode cX4_isJunior 13 = .ok (.aload_n 0, 1) := by decide +kernel
theorem dX4_isJunior_14 : decode cX4_isJunior 14 = .ok (.iconst 1, 1) := by decide +kernel
theorem dX4_isJunior_15 : decode cX4_isJunior 15 = .ok (.invokevirtual 76, 3) := by decide +kernel
theorem dX4_isJunior_18 : decode cX4_isJunior 18 = .ok (.pop, 1) := by decide +kernel
theorem dX4_isJunior_19 : decode cX4_isJunior 19 = .ok (.iconst 0, 1) := by decide +kernel
theorem dX4_isJunior_20 : decode cX4_isJunior 20 = .ok (.ireturn, 1) := by decide +kernel
theorem dX4_isJunior_21 : decode cX4_isJunior 21 = .ok (.aload_n 0, 1) := by decide +kernel
theorem dX4_isJunior_22 : decode cX4_isJunior 22 = .ok (.getfield 28, 3) := by decide +kernel
theorem dX4_isJunior_25 : decode cX4_isJunior 25 = .ok (.iload_n 1, 1) := by decide +kernel
theorem dX4_isJunior_26 : decode cX4_isJunior 26 = .ok (.iaload, 1) := by decide +kernel
theorem dX4_isJunior_27 : decode cX4_isJunior 27 = .ok (.iconst 1, 1) := by decide +kernel
theorem dX4_isJunior_28 : decode cX4_isJunior 28 = .ok (.if_icmp .ne 7, 3) := by decide +kernel
theorem dX4_isJunior_31 : decode cX4_isJunior 31 = .ok (.iconst 1, 1) := by decide +kernel
theorem dX4_isJunior_32 : decode cX4_isJunior 32 = .ok (.goto 4, 3) := by decide +kernel
theorem dX4_isJunior_35 : decode cX4_isJunior 35 = .ok (.iconst 0, 1) := by decide +kernel
theorem dX4_isJunior_36 : decode cX4_isJunior 36 = .ok (.ireturn, 1) := by decide +kernel
set_option maxRecDepth 20000 in
theorem ggX4_assessed_X4_isMember : GoodIn wsX4_assessed wsX4_isMember := goodIn_r _ [7, 8, 9, 10, 6, 11, 16, 17, 18, 19, 20, 21, 22, 23, 24, 25, 26, 27, 28, 29, 30, 31, 32, 33, 34, 35, 36, 37, 38, 39, 40, 41] (by decide +kernel) (by decide +kernel)
set_option maxRecDepth 20000 in
theorem gX4_assessed_X4_isMember : GoodIn wsX4_assessed (wsV RX4 86 RX4 yX4_isMember wsX4_isMember) := goodIn_app (goodIn_of _ (by decide +kernel)) ggX4_assessed_X4_isMember
set_option maxRecDepth 20000 in
theorem ggX4_assessed_X4_fails : GoodIn wsX4_assessed wsX4_fails := goodIn_r _ [15, 1, 16, 17, 18, 19, 20, 21, 22, 23, 24, 25, 26, 27, 28, 29, 30, 31, 32, 33, 34, 35, 36, 37, 38, 39, 40, 41] (by decide +kernel) (by decide +kernel)
set_option maxRecDepth 20000 in
theorem gX4_assessed_X4_fails : GoodIn wsX4_assessed (wsV RX4 76 RX4 yX4_fails wsX4_fails) := goodIn_app (goodIn_of _ (by decide +kernel)) ggX4_assessed_X4_fails
theorem dX4_assessed_0 : decode cX4_assessed 0 = .ok (.aload_n 0, 1) := by decide +kernel
theorem dX4_assessed_1 : decode cX4_assessed 1 = .ok (.iconst 0, 1) := by decide +kernel
theorem dX4_assessed_2 : decode cX4_assessed 2 = .ok (.putfield 65, 3) := by decide +kernel
theorem dX4_assessed_5 : decode cX4_assessed 5 = .ok (.aload_n 0, 1) := by decide +kernel
theorem dX4_assessed_6 : decode cX4_assessed 6 = .ok (.iload_n 1, 1) := by decide +kernel
theorem dX4_assessed_7 : decode cX4_assessed 7 = .ok (.invokevirtual 86, 3) := by decide +kernel
theorem dX4_assessed_10 : decode cX4_assessed 10 = .ok (.ifCond .eq 12, 3) := by decide +kernel
theorem dX4_assessed_13 : decode cX4_assessed 13 = .ok (.aload_n 0, 1) := by decide +kernel
theorem dX4_assessed_14 : decode cX4_assessed 14 = .ok (.getfield 31, 3) := by decide +kernel
theorem dX4_assessed_17 : decode cX4_assessed 17 = .ok (.iload_n 1, 1) := by decide +kernel
theorem dX4_assessed_18 : decode cX4_assessed 18 = .ok (.iaload, 1) := by decide +kernel
theorem dX4_assessed_19 : decode cX4_assessed 19 = .ok (.goto 8, 3) := by decide +kernel
theorem dX4_assessed_22 : decode cX4_assessed 22 = .ok (.aload_n 0, 1) := by decide +kernel
theorem dX4_assessed_23 : decode cX4_assessed 23 = .ok (.iconst 1, 1) := by decide +kernel
theorem dX4_assessed_24 : decode cX4_assessed 24 = .ok (.invokevirtual 76, 3) := by decide +kernel
theorem dX4_assessed_27 : decode cX4_assessed 27 = .ok (.ireturn, 1) := by decide +kernel
set_option maxRecDepth 20000 in
theorem ggX4_clientLots_X4_isMember : GoodIn wsX4_clientLots wsX4_isMember := goodIn_r _ [6, 7, 8, 9, 5, 10, 22, 23, 24, 25, 26, 27, 28, 29, 30, 31, 32, 33, 34, 35, 36, 37, 38, 39, 40, 41, 42, 43, 44, 45, 46, 47] (by decide +kernel) (by decide +kernel)
set_option maxRecDepth 20000 in
theorem gX4_clientLots_X4_isMember : GoodIn wsX4_clientLots (wsV RX4 86 RX4 yX4_isMember wsX4_isMember) := goodIn_app (goodIn_of _ (by decide +kernel)) ggX4_clientLots_X4_isMember
set_option maxRecDepth 20000 in
theorem ggX4_clientLots_X4_lotsWith : GoodIn wsX4_clientLots wsX4_lotsWith := goodIn_r _ [14, 15, 16, 17, 22, 23, 24, 25, 26, 27, 28, 29, 30, 31, 32, 33, 34, 35, 36, 37, 38, 39, 40, 41, 42, 43, 44, 45, 46, 47] (by decide +kernel) (by decide +kernel)
set_option maxRecDepth 20000 in
theorem gX4_clientLots_X4_lotsWith : GoodIn wsX4_clientLots (wsV RX4 83 RX4 yX4_lotsWith wsX4_lotsWith) := goodIn_app (goodIn_of _ (by decide +kernel)) ggX4_clientLots_X4_lotsWith
set_option maxRecDepth 20000 in
theorem ggX4_clientLots_X4_fails : GoodIn wsX4_clientLots wsX4_fails := goodIn_r _ [21, 1, 22, 23, 24, 25, 26, 27, 28, 29, 30, 31, 32, 33, 34, 35, 36, 37, 38, 39, 40, 41, 42, 43, 44, 45, 46, 47] (by decide +kernel) (by decide +kernel)
set_option maxRecDepth 20000 in
theorem gX4_clientLots_X4_fails : GoodIn wsX4_clientLots (wsV RX4 76 RX4 yX4_fails wsX4_fails) := goodIn_app (goodIn_of _ (by decide +kernel)) ggX4_clientLots_X4_fails
theorem dX4_clientLots_0 : decode cX4_clientLots 0 = .ok (.aload_n 0, 1) := by decide +kernel
theorem dX4_clientLots_1 : decode cX4_clientLots 1 = .ok (.iconst 0, 1) := by decide +kernel
theorem dX4_clientLots_2 : decode cX4_clientLots 2 = .ok (.putfield 65, 3) := by decide +kernel
theorem dX4_clientLots_5 : decode cX4_clientLots 5 = .ok (.aload_n 0, 1) := by decide +kernel
theorem dX4_clientLots_6 : decode cX4_clientLots 6 = .ok (.iload_n 1, 1) := by decide +kernel
theorem dX4_clientLots_7 : decode cX4_clientLots 7 = .ok (.invokevirtual 86, 3) := by decide +kernel
theorem dX4_clientLots_10 : decode cX4_clientLots 10 = .ok (.ifCond .eq 11, 3) := by decide +kernel
theorem dX4_clientLots_13 : decode cX4_clientLots 13 = .ok (.aload_n 0, 1) := by decide +kernel
theorem dX4_clientLots_14 : decode cX4_clientLots 14 = .ok (.iload_n 1, 1) := by decide +kernel
theorem dX4_clientLots_15 : decode cX4_clientLots 15 = .ok (.invokevirtual 83, 3) := by decide +kernel
theorem dX4_clientLots_18 : decode cX4_clientLots 18 = .ok (.goto 8, 3) := by decide +kernel
theorem dX4_clientLots_21 : decode cX4_clientLots 21 = .ok (.aload_n 0, 1) := by decide +kernel
theorem dX4_clientLots_22 : decode cX4_clientLots 22 = .ok (.iconst 1, 1) := by decide +kernel
theorem dX4_clientLots_23 : decode cX4_clientLots 23 = .ok (.invokevirtual 76, 3) := by decide +kernel
theorem dX4_clientLots_26 : decode cX4_clientLots 26 = .ok (.ireturn, 1) := by decide +kernel
set_option maxRecDepth 20000 in
theorem ggX4_won_X4_isMember : GoodIn wsX4_won wsX4_isMember := goodIn_r _ [7, 8, 9, 10, 6, 11, 16, 17, 18, 19, 20, 21, 22, 23, 24, 25, 26, 27, 28, 29, 30, 31, 32, 33, 34, 35, 36, 37, 38, 39, 40, 41] (by decide +kernel) (by decide +kernel)
set_option maxRecDepth 20000 in
theorem gX4_won_X4_isMember : GoodIn wsX4_won (wsV RX4 86 RX4 yX4_isMember wsX4_isMember) := goodIn_app (goodIn_of _ (by decide +kernel)) ggX4_won_X4_isMember
set_option maxRecDepth 20000 in
theorem ggX4_won_X4_fails : GoodIn wsX4_won wsX4_fails := goodIn_r _ [15, 1, 16, 17, 18, 19, 20, 21, 22, 23, 24, 25, 26, 27, 28, 29, 30, 31, 32, 33, 34, 35, 36, 37, 38, 39, 40, 41] (by decide +kernel) (by decide +kernel)
set_option maxRecDepth 20000 in
theorem gX4_won_X4_fails : GoodIn wsX4_won (wsV RX4 76 RX4 yX4_fails wsX4_fails) := goodIn_app (goodIn_of _ (by decide +kernel)) ggX4_won_X4_fails
theorem dX4_won_0 : decode cX4_won 0 = .ok (.aload_n 0, 1) := by decide +kernel
theorem dX4_won_1 : decode cX4_won 1 = .ok (.iconst 0, 1) := by decide +kernel
theorem dX4_won_2 : decode cX4_won 2 = .ok (.putfield 65, 3) := by decide +kernel
theorem dX4_won_5 : decode cX4_won 5 = .ok (.aload_n 0, 1) := by decide +kernel
theorem dX4_won_6 : decode cX4_won 6 = .ok (.iload_n 1, 1) := by decide +kernel
theorem dX4_won_7 : decode cX4_won 7 = .ok (.invokevirtual 86, 3) := by decide +kernel
theorem dX4_won_10 : decode cX4_won 10 = .ok (.ifCond .eq 12, 3) := by decide +kernel
theorem dX4_won_13 : decode cX4_won 13 = .ok (.aload_n 0, 1) := by decide +kernel
theorem dX4_won_14 : decode cX4_won 14 = .ok (.getfield 34, 3) := by decide +kernel
theorem dX4_won_17 : decode cX4_won 17 = .ok (.iload_n 1, 1) := by decide +kernel
theorem dX4_won_18 : decode cX4_won 18 = .ok (.iaload, 1) := by decide +kernel
theorem dX4_won_19 : decode cX4_won 19 = .ok (.goto 8, 3) := by decide +kernel
theorem dX4_won_22 : decode cX4_won 22 = .ok (.aload_n 0, 1) := by decide +kernel
theorem dX4_won_23 : decode cX4_won 23 = .ok (.iconst 1, 1) := by decide +kernel
theorem dX4_won_24 : decode cX4_won 24 = .ok (.invokevirtual 76, 3) := by decide +kernel
theorem dX4_won_27 : decode cX4_won 27 = .ok (.ireturn, 1) := by decide +kernel
theorem dX4_capital_0 : decode cX4_capital 0 = .ok (.aload_n 0, 1) := by decide +kernel
theorem dX4_capital_1 : decode cX4_capital 1 = .ok (.iconst 0, 1) := by decide +kernel
theorem dX4_capital_2 : decode cX4_capital 2 = .ok (.putfield 65, 3) := by decide +kernel
theorem dX4_capital_5 : decode cX4_capital 5 = .ok (.aload_n 0, 1) := by decide +kernel
theorem dX4_capital_6 : decode cX4_capital 6 = .ok (.getfield 99, 3) := by decide +kernel
theorem dX4_capital_9 : decode cX4_capital 9 = .ok (.ireturn, 1) := by decide +kernel
theorem dX4_loss_0 : decode cX4_loss 0 = .ok (.aload_n 0, 1) := by decide +kernel
theorem dX4_loss_1 : decode cX4_loss 1 = .ok (.iconst 0, 1) := by decide +kernel
theorem dX4_loss_2 : decode cX4_loss 2 = .ok (.putfield 65, 3) := by decide +kernel
theorem dX4_loss_5 : decode cX4_loss 5 = .ok (.aload_n 0, 1) := by decide +kernel
theorem dX4_loss_6 : decode cX4_loss 6 = .ok (.getfield 123, 3) := by decide +kernel
theorem dX4_loss_9 : decode cX4_loss 9 = .ok (.ireturn, 1) := by decide +kernel
theorem dX4_uncovered_0 : decode cX4_uncovered 0 = .ok (.aload_n 0, 1) := by decide +kernel
theorem dX4_uncovered_1 : decode cX4_uncovered 1 = .ok (.iconst 0, 1) := by decide +kernel
theorem dX4_uncovered_2 : decode cX4_uncovered 2 = .ok (.putfield 65, 3) := by decide +kernel
theorem dX4_uncovered_5 : decode cX4_uncovered 5 = .ok (.aload_n 0, 1) := by decide +kernel
theorem dX4_uncovered_6 : decode cX4_uncovered 6 = .ok (.getfield 136, 3) := by decide +kernel
theorem dX4_uncovered_9 : decode cX4_uncovered 9 = .ok (.ireturn, 1) := by decide +kernel
theorem dX4_failing_0 : decode cX4_failing 0 = .ok (.aload_n 0, 1) := by decide +kernel
theorem dX4_failing_1 : decode cX4_failing 1 = .ok (.iconst 0, 1) := by decide +kernel
theorem dX4_failing_2 : decode cX4_failing 2 = .ok (.putfield 65, 3) := by decide +kernel
theorem dX4_failing_5 : decode cX4_failing 5 = .ok (.aload_n 0, 1) := by decide +kernel
theorem dX4_failing_6 : decode cX4_failing 6 = .ok (.getfield 46, 3) := by decide +kernel
theorem dX4_failing_9 : decode cX4_failing 9 = .ok (.ireturn, 1) := by decide +kernel
theorem dJ9_max_7cf53_0 : decode cJ9_max_7cf53 0 = .ok (.iload_n 0, 1) := by decide +kernel
theorem dJ9_max_7cf53_1 : decode cJ9_max_7cf53 1 = .ok (.iload_n 1, 1) := by decide +kernel
theorem dJ9_max_7cf53_2 : decode cJ9_max_7cf53 2 = .ok (.if_icmp .lt 7, 3) := by decide +kernel
theorem dJ9_max_7cf53_5 : decode cJ9_max_7cf53 5 = .ok (.iload_n 0, 1) := by decide +kernel
theorem dJ9_max_7cf53_6 : decode cJ9_max_7cf53 6 = .ok (.goto 4, 3) := by decide +kernel
theorem dJ9_max_7cf53_9 : decode cJ9_max_7cf53 9 = .ok (.iload_n 1, 1) := by decide +kernel
theorem dJ9_max_7cf53_10 : decode cJ9_max_7cf53 10 = .ok (.ireturn, 1) := by decide +kernel
theorem dJ9_min_7cf53_0 : decode cJ9_min_7cf53 0 = .ok (.iload_n 0, 1) := by decide +kernel
theorem dJ9_min_7cf53_1 : decode cJ9_min_7cf53 1 = .ok (.iload_n 1, 1) := by decide +kernel
theorem dJ9_min_7cf53_2 : decode cJ9_min_7cf53 2 = .ok (.if_icmp .gt 7, 3) := by decide +kernel
theorem dJ9_min_7cf53_5 : decode cJ9_min_7cf53 5 = .ok (.iload_n 0, 1) := by decide +kernel
theorem dJ9_min_7cf53_6 : decode cJ9_min_7cf53 6 = .ok (.goto 4, 3) := by decide +kernel
theorem dJ9_min_7cf53_9 : decode cJ9_min_7cf53 9 = .ok (.iload_n 1, 1) := by decide +kernel
theorem dJ9_min_7cf53_10 : decode cJ9_min_7cf53 10 = .ok (.ireturn, 1) := by decide +kernel
set_option maxRecDepth 20000 in
theorem ggL_addMember_X3_addMember : GoodIn wsL_addMember wsX3_addMember := goodIn_ca (goodIn_ca (goodIn_r _ [7, 8, 9, 10, 11, 12, 13, 14, 6, 15, 16, 17, 18, 19, 20, 21, 22, 23, 24, 25, 26, 27, 28, 29, 30, 31, 32, 33, 34, 35, 36, 37, 38, 39, 40, 41, 42, 43, 44, 45] (by decide +kernel) (by decide +kernel)) (goodIn_sub (fun _ h => List.mem_cons_of_mem _ (List.mem_append_left _ (List.mem_append_right _ h))) (by decide +kernel))) (goodIn_sub (fun _ h => List.mem_cons_of_mem _ (List.mem_append_right _ h)) (by decide +kernel))
set_option maxRecDepth 20000 in
theorem gL_addMember_X3_addMember : GoodIn wsL_addMember (wsV RL 7 RX3 yX3_addMember wsX3_addMember) := goodIn_app (goodIn_of _ (by decide +kernel)) ggL_addMember_X3_addMember
theorem dL_addMember_0 : decode cL_addMember 0 = .ok (.aload 4, 2) := by decide +kernel
theorem dL_addMember_2 : decode cL_addMember 2 = .ok (.iconst 0, 1) := by decide +kernel
theorem dL_addMember_3 : decode cL_addMember 3 = .ok (.aload_n 0, 1) := by decide +kernel
theorem dL_addMember_4 : decode cL_addMember 4 = .ok (.iload_n 1, 1) := by decide +kernel
theorem dL_addMember_5 : decode cL_addMember 5 = .ok (.iload_n 2, 1) := by decide +kernel
theorem dL_addMember_6 : decode cL_addMember 6 = .ok (.iload_n 3, 1) := by decide +kernel
theorem dL_addMember_7 : decode cL_addMember 7 = .ok (.invokevirtual 7, 3) := by decide +kernel
theorem dL_addMember_10 : decode cL_addMember 10 = .ok (.i2l, 1) := by decide +kernel
theorem dL_addMember_11 : decode cL_addMember 11 = .ok (.lastore, 1) := by decide +kernel
theorem dL_addMember_12 : decode cL_addMember 12 = .ok (.goto 11, 3) := by decide +kernel
theorem dL_addMember_15 : decode cL_addMember 15 = .ok (.astore 5, 2) := by decide +kernel
theorem dL_addMember_17 : decode cL_addMember 17 = .ok (.iconst 1, 1) := by decide +kernel
theorem dL_addMember_18 : decode cL_addMember 18 = .ok (.ireturn, 1) := by decide +kernel
theorem dL_addMember_19 : decode cL_addMember 19 = .ok (.astore 5, 2) := by decide +kernel
theorem dL_addMember_21 : decode cL_addMember 21 = .ok (.iconst 2, 1) := by decide +kernel
theorem dL_addMember_22 : decode cL_addMember 22 = .ok (.ireturn, 1) := by decide +kernel
theorem dL_addMember_23 : decode cL_addMember 23 = .ok (.iconst 0, 1) := by decide +kernel
theorem dL_addMember_24 : decode cL_addMember 24 = .ok (.ireturn, 1) := by decide +kernel
set_option maxRecDepth 20000 in
theorem ggL_addClient_X3_addClient : GoodIn wsL_addClient wsX3_addClient := goodIn_ca (goodIn_ca (goodIn_ca (goodIn_r _ [8, 9, 10, 11, 12, 13, 7, 14, 15, 16, 17, 18, 19, 20, 21, 22, 23, 24, 25, 26, 27, 28, 29, 30, 31, 32, 33, 34, 35, 36, 37, 38, 39, 40, 41, 42, 43, 44, 45, 46, 47, 48, 49, 50, 51, 52, 53, 54, 55, 56, 57, 58, 59, 60, 61, 62, 63] (by decide +kernel) (by decide +kernel)) (goodIn_sub (fun _ h => List.mem_cons_of_mem _ (List.mem_append_left _ (List.mem_append_left _ (List.mem_append_right _ h)))) (by decide +kernel))) (goodIn_sub (fun _ h => List.mem_cons_of_mem _ (List.mem_append_left _ (List.mem_append_right _ h))) (by decide +kernel))) (goodIn_sub (fun _ h => List.mem_cons_of_mem _ (List.mem_append_right _ h)) (by decide +kernel))
set_option maxRecDepth 20000 in
theorem gL_addClient_X3_addClient : GoodIn wsL_addClient (wsV RL 17 RX3 yX3_addClient wsX3_addClient) := goodIn_app (goodIn_of _ (by decide +kernel)) ggL_addClient_X3_addClient
theorem dL_addClient_0 : decode cL_addClient 0 = .ok (.aload_n 3, 1) := by decide +kernel
theorem dL_addClient_1 : decode cL_addClient 1 = .ok (.iconst 0, 1) := by decide +kernel
theorem dL_addClient_2 : decode cL_addClient 2 = .ok (.aload_n 0, 1) := by decide +kernel
theorem dL_addClient_3 : decode cL_addClient 3 = .ok (.iload_n 1, 1) := by decide +kernel
theorem dL_addClient_4 : decode cL_addClient 4 = .ok (.iload_n 2, 1) := by decide +kernel
theorem dL_addClient_5 : decode cL_addClient 5 = .ok (.invokevirtual 17, 3) := by decide +kernel
theorem dL_addClient_8 : decode cL_addClient 8 = .ok (.i2l, 1) := by decide +kernel
theorem dL_addClient_9 : decode cL_addClient 9 = .ok (.lastore, 1) := by decide +kernel
theorem dL_addClient_10 : decode cL_addClient 10 = .ok (.goto 15, 3) := by decide +kernel
theorem dL_addClient_13 : decode cL_addClient 13 = .ok (.astore 4, 2) := by decide +kernel
theorem dL_addClient_15 : decode cL_addClient 15 = .ok (.iconst 1, 1) := by decide +kernel
theorem dL_addClient_16 : decode cL_addClient 16 = .ok (.ireturn, 1) := by decide +kernel
theorem dL_addClient_17 : decode cL_addClient 17 = .ok (.astore 4, 2) := by decide +kernel
theorem dL_addClient_19 : decode cL_addClient 19 = .ok (.iconst 2, 1) := by decide +kernel
theorem dL_addClient_20 : decode cL_addClient 20 = .ok (.ireturn, 1) := by decide +kernel
theorem dL_addClient_21 : decode cL_addClient 21 = .ok (.astore 4, 2) := by decide +kernel
theorem dL_addClient_23 : decode cL_addClient 23 = .ok (.iconst 3, 1) := by decide +kernel
theorem dL_addClient_24 : decode cL_addClient 24 = .ok (.ireturn, 1) := by decide +kernel
theorem dL_addClient_25 : decode cL_addClient 25 = .ok (.iconst 0, 1) := by decide +kernel
theorem dL_addClient_26 : decode cL_addClient 26 = .ok (.ireturn, 1) := by decide +kernel
set_option maxRecDepth 20000 in
theorem ggL_setGain_X3_setGain : GoodIn wsL_setGain wsX3_setGain := goodIn_ca (goodIn_ca (goodIn_ca (goodIn_r _ [8, 9, 10, 11, 12, 7, 13, 14, 15, 16, 17, 18, 19, 20, 21, 22, 23, 24, 25, 26, 27, 28, 29, 30, 31, 32, 33, 34, 35, 36, 37, 38, 39, 40, 41, 42, 43, 44, 45, 46, 47, 48, 49, 50, 51, 52, 53] (by decide +kernel) (by decide +kernel)) (goodIn_sub (fun _ h => List.mem_cons_of_mem _ (List.mem_append_left _ (List.mem_append_left _ (List.mem_append_right _ h)))) (by decide +kernel))) (goodIn_sub (fun _ h => List.mem_cons_of_mem _ (List.mem_append_left _ (List.mem_append_right _ h))) (by decide +kernel))) (goodIn_sub (fun _ h => List.mem_cons_of_mem _ (List.mem_append_right _ h)) (by decide +kernel))
set_option maxRecDepth 20000 in
theorem gL_setGain_X3_setGain : GoodIn wsL_setGain (wsV RL 23 RX3 yX3_setGain wsX3_setGain) := goodIn_app (goodIn_of _ (by decide +kernel)) ggL_setGain_X3_setGain
theorem dL_setGain_0 : decode cL_setGain 0 = .ok (.aload_n 3, 1) := by decide +kernel
theorem dL_setGain_1 : decode cL_setGain 1 = .ok (.iconst 0, 1) := by decide +kernel
theorem dL_setGain_2 : decode cL_setGain 2 = .ok (.aload_n 0, 1) := by decide +kernel
theorem dL_setGain_3 : decode cL_setGain 3 = .ok (.iload_n 1, 1) := by decide +kernel
theorem dL_setGain_4 : decode cL_setGain 4 = .ok (.iload_n 2, 1) := by decide +kernel
theorem dL_setGain_5 : decode cL_setGain 5 = .ok (.invokevirtual 23, 3) := by decide +kernel
theorem dL_setGain_8 : decode cL_setGain 8 = .ok (.i2l, 1) := by decide +kernel
theorem dL_setGain_9 : decode cL_setGain 9 = .ok (.lastore, 1) := by decide +kernel
theorem dL_setGain_10 : decode cL_setGain 10 = .ok (.goto 15, 3) := by decide +kernel
theorem dL_setGain_13 : decode cL_setGain 13 = .ok (.astore 4, 2) := by decide +kernel
theorem dL_setGain_15 : decode cL_setGain 15 = .ok (.iconst 1, 1) := by decide +kernel
theorem dL_setGain_16 : decode cL_setGain 16 = .ok (.ireturn, 1) := by decide +kernel
theorem dL_setGain_17 : decode cL_setGain 17 = .ok (.astore 4, 2) := by decide +kernel
theorem dL_setGain_19 : decode cL_setGain 19 = .ok (.iconst 2, 1) := by decide +kernel
theorem dL_setGain_20 : decode cL_setGain 20 = .ok (.ireturn, 1) := by decide +kernel
theorem dL_setGain_21 : decode cL_setGain 21 = .ok (.astore 4, 2) := by decide +kernel
theorem dL_setGain_23 : decode cL_setGain 23 = .ok (.iconst 3, 1) := by decide +kernel
theorem dL_setGain_24 : decode cL_setGain 24 = .ok (.ireturn, 1) := by decide +kernel
theorem dL_setGain_25 : decode cL_setGain 25 = .ok (.iconst 0, 1) := by decide +kernel
theorem dL_setGain_26 : decode cL_setGain 26 = .ok (.ireturn, 1) := by decide +kernel
set_option maxRecDepth 20000 in
theorem ggL_setTested_X3_setTested : GoodIn wsL_setTested wsX3_setTested := goodIn_ca (goodIn_ca (goodIn_ca (goodIn_r _ [8, 9, 10, 11, 12, 7, 13, 14, 15, 16, 17, 18, 19, 20, 21, 22, 23, 24, 25, 26, 27, 28, 29, 30, 31, 32, 33, 34, 35, 36, 37, 38, 39, 40, 41, 42, 43, 44, 45, 46, 47, 48, 49, 50, 51, 52, 53] (by decide +kernel) (by decide +kernel)) (goodIn_sub (fun _ h => List.mem_cons_of_mem _ (List.mem_append_left _ (List.mem_append_left _ (List.mem_append_right _ h)))) (by decide +kernel))) (goodIn_sub (fun _ h => List.mem_cons_of_mem _ (List.mem_append_left _ (List.mem_append_right _ h))) (by decide +kernel))) (goodIn_sub (fun _ h => List.mem_cons_of_mem _ (List.mem_append_right _ h)) (by decide +kernel))
set_option maxRecDepth 20000 in
theorem gL_setTested_X3_setTested : GoodIn wsL_setTested (wsV RL 26 RX3 yX3_setTested wsX3_setTested) := goodIn_app (goodIn_of _ (by decide +kernel)) ggL_setTested_X3_setTested
theorem dL_setTested_0 : decode cL_setTested 0 = .ok (.aload_n 3, 1) := by decide +kernel
theorem dL_setTested_1 : decode cL_setTested 1 = .ok (.iconst 0, 1) := by decide +kernel
theorem dL_setTested_2 : decode cL_setTested 2 = .ok (.aload_n 0, 1) := by decide +kernel
theorem dL_setTested_3 : decode cL_setTested 3 = .ok (.iload_n 1, 1) := by decide +kernel
theorem dL_setTested_4 : decode cL_setTested 4 = .ok (.iload_n 2, 1) := by decide +kernel
theorem dL_setTested_5 : decode cL_setTested 5 = .ok (.invokevirtual 26, 3) := by decide +kernel
theorem dL_setTested_8 : decode cL_setTested 8 = .ok (.i2l, 1) := by decide +kernel
theorem dL_setTested_9 : decode cL_setTested 9 = .ok (.lastore, 1) := by decide +kernel
theorem dL_setTested_10 : decode cL_setTested 10 = .ok (.goto 15, 3) := by decide +kernel
theorem dL_setTested_13 : decode cL_setTested 13 = .ok (.astore 4, 2) := by decide +kernel
theorem dL_setTested_15 : decode cL_setTested 15 = .ok (.iconst 1, 1) := by decide +kernel
theorem dL_setTested_16 : decode cL_setTested 16 = .ok (.ireturn, 1) := by decide +kernel
theorem dL_setTested_17 : decode cL_setTested 17 = .ok (.astore 4, 2) := by decide +kernel
theorem dL_setTested_19 : decode cL_setTested 19 = .ok (.iconst 2, 1) := by decide +kernel
theorem dL_setTested_20 : decode cL_setTested 20 = .ok (.ireturn, 1) := by decide +kernel
theorem dL_setTested_21 : decode cL_setTested 21 = .ok (.astore 4, 2) := by decide +kernel
theorem dL_setTested_23 : decode cL_setTested 23 = .ok (.iconst 3, 1) := by decide +kernel
theorem dL_setTested_24 : decode cL_setTested 24 = .ok (.ireturn, 1) := by decide +kernel
theorem dL_setTested_25 : decode cL_setTested 25 = .ok (.iconst 0, 1) := by decide +kernel
theorem dL_setTested_26 : decode cL_setTested 26 = .ok (.ireturn, 1) := by decide +kernel
set_option maxRecDepth 20000 in
theorem ggL_setCapital_X3_setCapital : GoodIn wsL_setCapital wsX3_setCapital := goodIn_ca (goodIn_r _ [6, 7, 8, 9, 10, 5, 11, 12, 13, 14, 15, 16, 17, 18, 19, 20, 21] (by decide +kernel) (by decide +kernel)) (goodIn_sub (fun _ h => List.mem_cons_of_mem _ (List.mem_append_right _ h)) (by decide +kernel))
set_option maxRecDepth 20000 in
theorem gL_setCapital_X3_setCapital : GoodIn wsL_setCapital (wsV RL 29 RX3 yX3_setCapital wsX3_setCapital) := goodIn_app (goodIn_of _ (by decide +kernel)) ggL_setCapital_X3_setCapital
theorem dL_setCapital_0 : decode cL_setCapital 0 = .ok (.aload_n 2, 1) := by decide +kernel
theorem dL_setCapital_1 : decode cL_setCapital 1 = .ok (.iconst 0, 1) := by decide +kernel
theorem dL_setCapital_2 : decode cL_setCapital 2 = .ok (.aload_n 0, 1) := by decide +kernel
theorem dL_setCapital_3 : decode cL_setCapital 3 = .ok (.iload_n 1, 1) := by decide +kernel
theorem dL_setCapital_4 : decode cL_setCapital 4 = .ok (.invokevirtual 29, 3) := by decide +kernel
theorem dL_setCapital_7 : decode cL_setCapital 7 = .ok (.i2l, 1) := by decide +kernel
theorem dL_setCapital_8 : decode cL_setCapital 8 = .ok (.lastore, 1) := by decide +kernel
theorem dL_setCapital_9 : decode cL_setCapital 9 = .ok (.goto 6, 3) := by decide +kernel
theorem dL_setCapital_12 : decode cL_setCapital 12 = .ok (.astore_n 3, 1) := by decide +kernel
theorem dL_setCapital_13 : decode cL_setCapital 13 = .ok (.iconst 1, 1) := by decide +kernel
theorem dL_setCapital_14 : decode cL_setCapital 14 = .ok (.ireturn, 1) := by decide +kernel
theorem dL_setCapital_15 : decode cL_setCapital 15 = .ok (.iconst 0, 1) := by decide +kernel
theorem dL_setCapital_16 : decode cL_setCapital 16 = .ok (.ireturn, 1) := by decide +kernel
set_option maxRecDepth 20000 in
theorem ggL_giveNotice_X3_giveNotice : GoodIn wsL_giveNotice wsX3_giveNotice := goodIn_ca (goodIn_ca (goodIn_r _ [7, 8, 9, 10, 11, 12, 6, 13, 14, 15, 16, 17, 18, 19, 20, 21, 22, 23, 24, 25, 26, 27, 28, 29, 30, 31, 32, 33, 34, 35, 36, 37, 38, 39, 40, 41, 42, 43] (by decide +kernel) (by decide +kernel)) (goodIn_sub (fun _ h => List.mem_cons_of_mem _ (List.mem_append_left _ (List.mem_append_right _ h))) (by decide +kernel))) (goodIn_sub (fun _ h => List.mem_cons_of_mem _ (List.mem_append_right _ h)) (by decide +kernel))
set_option maxRecDepth 20000 in
theorem gL_giveNotice_X3_giveNotice : GoodIn wsL_giveNotice (wsV RL 33 RX3 yX3_giveNotice wsX3_giveNotice) := goodIn_app (goodIn_of _ (by decide +kernel)) ggL_giveNotice_X3_giveNotice
theorem dL_giveNotice_0 : decode cL_giveNotice 0 = .ok (.aload_n 0, 1) := by decide +kernel
theorem dL_giveNotice_1 : decode cL_giveNotice 1 = .ok (.iload_n 1, 1) := by decide +kernel
theorem dL_giveNotice_2 : decode cL_giveNotice 2 = .ok (.invokevirtual 33, 3) := by decide +kernel
theorem dL_giveNotice_5 : decode cL_giveNotice 5 = .ok (.goto 9, 3) := by decide +kernel
theorem dL_giveNotice_8 : decode cL_giveNotice 8 = .ok (.astore_n 2, 1) := by decide +kernel
theorem dL_giveNotice_9 : decode cL_giveNotice 9 = .ok (.iconst 1, 1) := by decide +kernel
theorem dL_giveNotice_10 : decode cL_giveNotice 10 = .ok (.ireturn, 1) := by decide +kernel
theorem dL_giveNotice_11 : decode cL_giveNotice 11 = .ok (.astore_n 2, 1) := by decide +kernel
theorem dL_giveNotice_12 : decode cL_giveNotice 12 = .ok (.iconst 2, 1) := by decide +kernel
theorem dL_giveNotice_13 : decode cL_giveNotice 13 = .ok (.ireturn, 1) := by decide +kernel
theorem dL_giveNotice_14 : decode cL_giveNotice 14 = .ok (.iconst 0, 1) := by decide +kernel
theorem dL_giveNotice_15 : decode cL_giveNotice 15 = .ok (.ireturn, 1) := by decide +kernel
set_option maxRecDepth 20000 in
theorem ggL_size_X3_size : GoodIn wsL_size wsX3_size := goodIn_ca (goodIn_r _ [6, 7, 8, 9, 10, 11, 12, 5, 13, 14, 15, 16, 17, 18, 19, 20, 21, 22, 23, 24, 25, 26, 27, 28, 29, 30, 31, 32, 33, 34, 35, 36, 37, 38, 39, 40, 41, 42, 43, 44, 45, 46, 47, 48, 49, 50, 51, 52, 53, 54, 55, 56, 57, 58, 59, 60, 61, 62, 63, 64, 65, 66, 67, 68, 69, 70, 71, 72, 73, 74, 75, 76, 77, 78, 79, 80, 81, 82, 83, 84, 85, 86, 87, 88] (by decide +kernel) (by decide +kernel)) (goodIn_sub (fun _ h => List.mem_cons_of_mem _ (List.mem_append_right _ h)) (by decide +kernel))
set_option maxRecDepth 20000 in
theorem gL_size_X3_size : GoodIn wsL_size (wsV RL 37 RX3 yX3_size wsX3_size) := goodIn_app (goodIn_of _ (by decide +kernel)) ggL_size_X3_size
theorem dL_size_0 : decode cL_size 0 = .ok (.aload_n 1, 1) := by decide +kernel
theorem dL_size_1 : decode cL_size 1 = .ok (.iconst 0, 1) := by decide +kernel
theorem dL_size_2 : decode cL_size 2 = .ok (.aload_n 0, 1) := by decide +kernel
theorem dL_size_3 : decode cL_size 3 = .ok (.invokevirtual 37, 3) := by decide +kernel
theorem dL_size_6 : decode cL_size 6 = .ok (.i2l, 1) := by decide +kernel
theorem dL_size_7 : decode cL_size 7 = .ok (.lastore, 1) := by decide +kernel
theorem dL_size_8 : decode cL_size 8 = .ok (.goto 6, 3) := by decide +kernel
theorem dL_size_11 : decode cL_size 11 = .ok (.astore_n 2, 1) := by decide +kernel
theorem dL_size_12 : decode cL_size 12 = .ok (.iconst 1, 1) := by decide +kernel
theorem dL_size_13 : decode cL_size 13 = .ok (.ireturn, 1) := by decide +kernel
theorem dL_size_14 : decode cL_size 14 = .ok (.iconst 0, 1) := by decide +kernel
theorem dL_size_15 : decode cL_size 15 = .ok (.ireturn, 1) := by decide +kernel
set_option maxRecDepth 20000 in
theorem ggL_fail_X3_fail : GoodIn wsL_fail wsX3_fail := goodIn_ca (goodIn_ca (goodIn_ca (goodIn_r _ [8, 9, 10, 11, 12, 13, 14, 15, 7, 16, 17, 18, 19, 20, 21, 22, 23, 24, 25, 26, 27, 28, 29, 30, 31, 32, 33, 34, 35, 36, 37, 38, 39, 40, 41, 42, 43, 44, 45, 46, 47, 48, 49, 50, 51, 52, 53, 54, 55, 56, 57, 58, 59, 60, 61, 62, 63, 64, 65, 66, 67, 68, 69, 70, 71, 72, 73, 74, 75, 76, 77, 78, 79, 80, 81, 82, 83, 84, 85, 86, 87, 88, 89, 90, 91, 92] (by decide +kernel) (by decide +kernel)) (goodIn_sub (fun _ h => List.mem_cons_of_mem _ (List.mem_append_left _ (List.mem_append_left _ (List.mem_append_right _ h)))) (by decide +kernel))) (goodIn_sub (fun _ h => List.mem_cons_of_mem _ (List.mem_append_left _ (List.mem_append_right _ h))) (by decide +kernel))) (goodIn_sub (fun _ h => List.mem_cons_of_mem _ (List.mem_append_right _ h)) (by decide +kernel))
set_option maxRecDepth 20000 in
theorem gL_fail_X3_fail : GoodIn wsL_fail (wsV RL 41 RX3 yX3_fail wsX3_fail) := goodIn_app (goodIn_of _ (by decide +kernel)) ggL_fail_X3_fail
theorem dL_fail_0 : decode cL_fail 0 = .ok (.aload_n 3, 1) := by decide +kernel
theorem dL_fail_1 : decode cL_fail 1 = .ok (.iconst 0, 1) := by decide +kernel
theorem dL_fail_2 : decode cL_fail 2 = .ok (.aload_n 0, 1) := by decide +kernel
theorem dL_fail_3 : decode cL_fail 3 = .ok (.iload_n 1, 1) := by decide +kernel
theorem dL_fail_4 : decode cL_fail 4 = .ok (.iload_n 2, 1) := by decide +kernel
theorem dL_fail_5 : decode cL_fail 5 = .ok (.invokevirtual 41, 3) := by decide +kernel
theorem dL_fail_8 : decode cL_fail 8 = .ok (.i2l, 1) := by decide +kernel
theorem dL_fail_9 : decode cL_fail 9 = .ok (.lastore, 1) := by decide +kernel
theorem dL_fail_10 : decode cL_fail 10 = .ok (.goto 15, 3) := by decide +kernel
theorem dL_fail_13 : decode cL_fail 13 = .ok (.astore 4, 2) := by decide +kernel
theorem dL_fail_15 : decode cL_fail 15 = .ok (.iconst 1, 1) := by decide +kernel
theorem dL_fail_16 : decode cL_fail 16 = .ok (.ireturn, 1) := by decide +kernel
theorem dL_fail_17 : decode cL_fail 17 = .ok (.astore 4, 2) := by decide +kernel
theorem dL_fail_19 : decode cL_fail 19 = .ok (.iconst 2, 1) := by decide +kernel
theorem dL_fail_20 : decode cL_fail 20 = .ok (.ireturn, 1) := by decide +kernel
theorem dL_fail_21 : decode cL_fail 21 = .ok (.astore 4, 2) := by decide +kernel
theorem dL_fail_23 : decode cL_fail 23 = .ok (.iconst 3, 1) := by decide +kernel
theorem dL_fail_24 : decode cL_fail 24 = .ok (.ireturn, 1) := by decide +kernel
theorem dL_fail_25 : decode cL_fail 25 = .ok (.iconst 0, 1) := by decide +kernel
theorem dL_fail_26 : decode cL_fail 26 = .ok (.ireturn, 1) := by decide +kernel
set_option maxRecDepth 20000 in
theorem ggL_bid_X3_bid : GoodIn wsL_bid wsX3_bid := goodIn_ca (goodIn_ca (goodIn_ca (goodIn_r _ [8, 9, 10, 11, 12, 13, 14, 15, 16, 17, 7, 18, 19, 20, 21, 22, 23, 24, 25, 26, 27, 28, 29, 30, 31, 32, 33, 34, 35, 36, 37, 38, 39, 40, 41, 42, 43, 44, 45, 46, 47, 48, 49, 50, 51, 52, 53, 54, 55, 56, 57, 58, 59, 60, 61, 62, 63, 64, 65, 66, 67, 68] (by decide +kernel) (by decide +kernel)) (goodIn_sub (fun _ h => List.mem_cons_of_mem _ (List.mem_append_left _ (List.mem_append_left _ (List.mem_append_right _ h)))) (by decide +kernel))) (goodIn_sub (fun _ h => List.mem_cons_of_mem _ (List.mem_append_left _ (List.mem_append_right _ h))) (by decide +kernel))) (goodIn_sub (fun _ h => List.mem_cons_of_mem _ (List.mem_append_right _ h)) (by decide +kernel))
set_option maxRecDepth 20000 in
theorem gL_bid_X3_bid : GoodIn wsL_bid (wsV RL 44 RX3 yX3_bid wsX3_bid) := goodIn_app (goodIn_of _ (by decide +kernel)) ggL_bid_X3_bid
theorem dL_bid_0 : decode cL_bid 0 = .ok (.aload_n 0, 1) := by decide +kernel
theorem dL_bid_1 : decode cL_bid 1 = .ok (.iload_n 1, 1) := by decide +kernel
theorem dL_bid_2 : decode cL_bid 2 = .ok (.iload_n 2, 1) := by decide +kernel
theorem dL_bid_3 : decode cL_bid 3 = .ok (.iload_n 3, 1) := by decide +kernel
theorem dL_bid_4 : decode cL_bid 4 = .ok (.invokevirtual 44, 3) := by decide +kernel
theorem dL_bid_7 : decode cL_bid 7 = .ok (.goto 15, 3) := by decide +kernel
theorem dL_bid_10 : decode cL_bid 10 = .ok (.astore 4, 2) := by decide +kernel
theorem dL_bid_12 : decode cL_bid 12 = .ok (.iconst 1, 1) := by decide +kernel
theorem dL_bid_13 : decode cL_bid 13 = .ok (.ireturn, 1) := by decide +kernel
theorem dL_bid_14 : decode cL_bid 14 = .ok (.astore 4, 2) := by decide +kernel
theorem dL_bid_16 : decode cL_bid 16 = .ok (.iconst 2, 1) := by decide +kernel
theorem dL_bid_17 : decode cL_bid 17 = .ok (.ireturn, 1) := by decide +kernel
theorem dL_bid_18 : decode cL_bid 18 = .ok (.astore 4, 2) := by decide +kernel
theorem dL_bid_20 : decode cL_bid 20 = .ok (.iconst 3, 1) := by decide +kernel
theorem dL_bid_21 : decode cL_bid 21 = .ok (.ireturn, 1) := by decide +kernel
theorem dL_bid_22 : decode cL_bid 22 = .ok (.iconst 0, 1) := by decide +kernel
theorem dL_bid_23 : decode cL_bid 23 = .ok (.ireturn, 1) := by decide +kernel
set_option maxRecDepth 20000 in
theorem ggL_close_X3_close : GoodIn wsL_close wsX3_close := goodIn_ca (goodIn_r _ [6, 7, 8, 9, 10, 11, 12, 13, 14, 15, 16, 17, 18, 19, 5, 20, 21, 22, 23, 24, 25, 26, 27, 28, 29, 30, 31, 32, 33, 34, 35, 36, 37, 38, 39, 40, 41, 42, 43, 44, 45, 46, 47, 48, 49, 50, 51, 52, 53, 54, 55, 56, 57, 58, 59, 60, 61, 62, 63, 64, 65, 66, 67, 68, 69, 70, 71, 72, 73, 74, 75, 76, 77, 78, 79, 80, 81, 82, 83, 84, 85, 86, 87, 88, 89, 90, 91, 92, 93, 94, 95, 96, 97, 98, 99, 100, 101, 102, 103, 104, 105, 106, 107, 108, 109, 110, 111, 112, 113, 114, 115, 116, 117, 118, 119, 120, 121, 122, 123, 124, 125, 126, 127, 128, 129, 130, 131, 132, 133, 134, 135, 136, 137, 138] (by decide +kernel) (by decide +kernel)) (goodIn_sub (fun _ h => List.mem_cons_of_mem _ (List.mem_append_right _ h)) (by decide +kernel))
set_option maxRecDepth 20000 in
theorem gL_close_X3_close : GoodIn wsL_close (wsV RL 48 RX3 yX3_close wsX3_close) := goodIn_app (goodIn_of _ (by decide +kernel)) ggL_close_X3_close
theorem dL_close_0 : decode cL_close 0 = .ok (.aload_n 1, 1) := by decide +kernel
theorem dL_close_1 : decode cL_close 1 = .ok (.iconst 0, 1) := by decide +kernel
theorem dL_close_2 : decode cL_close 2 = .ok (.aload_n 0, 1) := by decide +kernel
theorem dL_close_3 : decode cL_close 3 = .ok (.invokevirtual 48, 3) := by decide +kernel
theorem dL_close_6 : decode cL_close 6 = .ok (.i2l, 1) := by decide +kernel
theorem dL_close_7 : decode cL_close 7 = .ok (.lastore, 1) := by decide +kernel
theorem dL_close_8 : decode cL_close 8 = .ok (.goto 6, 3) := by decide +kernel
theorem dL_close_11 : decode cL_close 11 = .ok (.astore_n 2, 1) := by decide +kernel
theorem dL_close_12 : decode cL_close 12 = .ok (.iconst 1, 1) := by decide +kernel
theorem dL_close_13 : decode cL_close 13 = .ok (.ireturn, 1) := by decide +kernel
theorem dL_close_14 : decode cL_close 14 = .ok (.iconst 0, 1) := by decide +kernel
theorem dL_close_15 : decode cL_close 15 = .ok (.ireturn, 1) := by decide +kernel
set_option maxRecDepth 20000 in
theorem ggL_state_X3_state : GoodIn wsL_state wsX3_state := goodIn_ca (goodIn_r _ [6, 7, 8, 9, 5, 10, 11, 12, 13, 14, 15, 16, 17, 18, 19, 20, 21, 22, 23, 24, 25, 26, 27, 28, 29, 30, 31, 32, 33, 34, 35] (by decide +kernel) (by decide +kernel)) (goodIn_sub (fun _ h => List.mem_cons_of_mem _ (List.mem_append_right _ h)) (by decide +kernel))
set_option maxRecDepth 20000 in
theorem gL_state_X3_state : GoodIn wsL_state (wsV RL 51 RX3 yX3_state wsX3_state) := goodIn_app (goodIn_of _ (by decide +kernel)) ggL_state_X3_state
theorem dL_state_0 : decode cL_state 0 = .ok (.aload_n 2, 1) := by decide +kernel
theorem dL_state_1 : decode cL_state 1 = .ok (.iconst 0, 1) := by decide +kernel
theorem dL_state_2 : decode cL_state 2 = .ok (.aload_n 0, 1) := by decide +kernel
theorem dL_state_3 : decode cL_state 3 = .ok (.iload_n 1, 1) := by decide +kernel
theorem dL_state_4 : decode cL_state 4 = .ok (.invokevirtual 51, 3) := by decide +kernel
theorem dL_state_7 : decode cL_state 7 = .ok (.i2l, 1) := by decide +kernel
theorem dL_state_8 : decode cL_state 8 = .ok (.lastore, 1) := by decide +kernel
theorem dL_state_9 : decode cL_state 9 = .ok (.goto 6, 3) := by decide +kernel
theorem dL_state_12 : decode cL_state 12 = .ok (.astore_n 3, 1) := by decide +kernel
theorem dL_state_13 : decode cL_state 13 = .ok (.iconst 1, 1) := by decide +kernel
theorem dL_state_14 : decode cL_state 14 = .ok (.ireturn, 1) := by decide +kernel
theorem dL_state_15 : decode cL_state 15 = .ok (.iconst 0, 1) := by decide +kernel
theorem dL_state_16 : decode cL_state 16 = .ok (.ireturn, 1) := by decide +kernel
set_option maxRecDepth 20000 in
theorem ggL_margin_X3_margin : GoodIn wsL_margin wsX3_margin := goodIn_ca (goodIn_r _ [6, 7, 8, 9, 5, 10, 11, 12, 13, 14, 15, 16, 17, 18, 19, 20, 21, 22, 23, 24, 25, 26, 27, 28, 29, 30, 31, 32, 33, 34, 35] (by decide +kernel) (by decide +kernel)) (goodIn_sub (fun _ h => List.mem_cons_of_mem _ (List.mem_append_right _ h)) (by decide +kernel))
set_option maxRecDepth 20000 in
theorem gL_margin_X3_margin : GoodIn wsL_margin (wsV RL 54 RX3 yX3_margin wsX3_margin) := goodIn_app (goodIn_of _ (by decide +kernel)) ggL_margin_X3_margin
theorem dL_margin_0 : decode cL_margin 0 = .ok (.aload_n 2, 1) := by decide +kernel
theorem dL_margin_1 : decode cL_margin 1 = .ok (.iconst 0, 1) := by decide +kernel
theorem dL_margin_2 : decode cL_margin 2 = .ok (.aload_n 0, 1) := by decide +kernel
theorem dL_margin_3 : decode cL_margin 3 = .ok (.iload_n 1, 1) := by decide +kernel
theorem dL_margin_4 : decode cL_margin 4 = .ok (.invokevirtual 54, 3) := by decide +kernel
theorem dL_margin_7 : decode cL_margin 7 = .ok (.i2l, 1) := by decide +kernel
theorem dL_margin_8 : decode cL_margin 8 = .ok (.lastore, 1) := by decide +kernel
theorem dL_margin_9 : decode cL_margin 9 = .ok (.goto 6, 3) := by decide +kernel
theorem dL_margin_12 : decode cL_margin 12 = .ok (.astore_n 3, 1) := by decide +kernel
theorem dL_margin_13 : decode cL_margin 13 = .ok (.iconst 1, 1) := by decide +kernel
theorem dL_margin_14 : decode cL_margin 14 = .ok (.ireturn, 1) := by decide +kernel
theorem dL_margin_15 : decode cL_margin 15 = .ok (.iconst 0, 1) := by decide +kernel
theorem dL_margin_16 : decode cL_margin 16 = .ok (.ireturn, 1) := by decide +kernel
set_option maxRecDepth 20000 in
theorem ggL_share_X3_share : GoodIn wsL_share wsX3_share := goodIn_ca (goodIn_r _ [6, 7, 8, 9, 5, 10, 11, 12, 13, 14, 15, 16, 17, 18, 19, 20, 21, 22, 23, 24, 25, 26, 27, 28, 29, 30, 31, 32, 33, 34, 35] (by decide +kernel) (by decide +kernel)) (goodIn_sub (fun _ h => List.mem_cons_of_mem _ (List.mem_append_right _ h)) (by decide +kernel))
set_option maxRecDepth 20000 in
theorem gL_share_X3_share : GoodIn wsL_share (wsV RL 57 RX3 yX3_share wsX3_share) := goodIn_app (goodIn_of _ (by decide +kernel)) ggL_share_X3_share
theorem dL_share_0 : decode cL_share 0 = .ok (.aload_n 2, 1) := by decide +kernel
theorem dL_share_1 : decode cL_share 1 = .ok (.iconst 0, 1) := by decide +kernel
theorem dL_share_2 : decode cL_share 2 = .ok (.aload_n 0, 1) := by decide +kernel
theorem dL_share_3 : decode cL_share 3 = .ok (.iload_n 1, 1) := by decide +kernel
theorem dL_share_4 : decode cL_share 4 = .ok (.invokevirtual 57, 3) := by decide +kernel
theorem dL_share_7 : decode cL_share 7 = .ok (.i2l, 1) := by decide +kernel
theorem dL_share_8 : decode cL_share 8 = .ok (.lastore, 1) := by decide +kernel
theorem dL_share_9 : decode cL_share 9 = .ok (.goto 6, 3) := by decide +kernel
theorem dL_share_12 : decode cL_share 12 = .ok (.astore_n 3, 1) := by decide +kernel
theorem dL_share_13 : decode cL_share 13 = .ok (.iconst 1, 1) := by decide +kernel
theorem dL_share_14 : decode cL_share 14 = .ok (.ireturn, 1) := by decide +kernel
theorem dL_share_15 : decode cL_share 15 = .ok (.iconst 0, 1) := by decide +kernel
theorem dL_share_16 : decode cL_share 16 = .ok (.ireturn, 1) := by decide +kernel
set_option maxRecDepth 20000 in
theorem ggL_gain_X3_gain : GoodIn wsL_gain wsX3_gain := goodIn_ca (goodIn_r _ [6, 7, 8, 9, 5, 10, 11, 12, 13, 14, 15, 16, 17, 18, 19, 20, 21, 22, 23, 24, 25, 26, 27, 28, 29, 30, 31, 32, 33, 34, 35] (by decide +kernel) (by decide +kernel)) (goodIn_sub (fun _ h => List.mem_cons_of_mem _ (List.mem_append_right _ h)) (by decide +kernel))
set_option maxRecDepth 20000 in
theorem gL_gain_X3_gain : GoodIn wsL_gain (wsV RL 60 RX3 yX3_gain wsX3_gain) := goodIn_app (goodIn_of _ (by decide +kernel)) ggL_gain_X3_gain
theorem dL_gain_0 : decode cL_gain 0 = .ok (.aload_n 2, 1) := by decide +kernel
theorem dL_gain_1 : decode cL_gain 1 = .ok (.iconst 0, 1) := by decide +kernel
theorem dL_gain_2 : decode cL_gain 2 = .ok (.aload_n 0, 1) := by decide +kernel
theorem dL_gain_3 : decode cL_gain 3 = .ok (.iload_n 1, 1) := by decide +kernel
theorem dL_gain_4 : decode cL_gain 4 = .ok (.invokevirtual 60, 3) := by decide +kernel
theorem dL_gain_7 : decode cL_gain 7 = .ok (.i2l, 1) := by decide +kernel
theorem dL_gain_8 : decode cL_gain 8 = .ok (.lastore, 1) := by decide +kernel
theorem dL_gain_9 : decode cL_gain 9 = .ok (.goto 6, 3) := by decide +kernel
theorem dL_gain_12 : decode cL_gain 12 = .ok (.astore_n 3, 1) := by decide +kernel
theorem dL_gain_13 : decode cL_gain 13 = .ok (.iconst 1, 1) := by decide +kernel
theorem dL_gain_14 : decode cL_gain 14 = .ok (.ireturn, 1) := by decide +kernel
theorem dL_gain_15 : decode cL_gain 15 = .ok (.iconst 0, 1) := by decide +kernel
theorem dL_gain_16 : decode cL_gain 16 = .ok (.ireturn, 1) := by decide +kernel
set_option maxRecDepth 20000 in
theorem ggL_isJunior_X3_isJunior : GoodIn wsL_isJunior wsX3_isJunior := goodIn_ca (goodIn_r _ [6, 7, 8, 9, 5, 10, 11, 12, 13, 14, 15, 16, 17, 18, 19, 20, 21, 22, 23, 24, 25, 26, 27, 28, 29, 30, 31, 32, 33, 34, 35] (by decide +kernel) (by decide +kernel)) (goodIn_sub (fun _ h => List.mem_cons_of_mem _ (List.mem_append_right _ h)) (by decide +kernel))
set_option maxRecDepth 20000 in
theorem gL_isJunior_X3_isJunior : GoodIn wsL_isJunior (wsV RL 63 RX3 yX3_isJunior wsX3_isJunior) := goodIn_app (goodIn_of _ (by decide +kernel)) ggL_isJunior_X3_isJunior
theorem dL_isJunior_0 : decode cL_isJunior 0 = .ok (.aload_n 2, 1) := by decide +kernel
theorem dL_isJunior_1 : decode cL_isJunior 1 = .ok (.iconst 0, 1) := by decide +kernel
theorem dL_isJunior_2 : decode cL_isJunior 2 = .ok (.aload_n 0, 1) := by decide +kernel
theorem dL_isJunior_3 : decode cL_isJunior 3 = .ok (.iload_n 1, 1) := by decide +kernel
theorem dL_isJunior_4 : decode cL_isJunior 4 = .ok (.invokevirtual 63, 3) := by decide +kernel
theorem dL_isJunior_7 : decode cL_isJunior 7 = .ok (.ifCond .eq 7, 3) := by decide +kernel
theorem dL_isJunior_10 : decode cL_isJunior 10 = .ok (.lconst 1, 1) := by decide +kernel
theorem dL_isJunior_11 : decode cL_isJunior 11 = .ok (.goto 4, 3) := by decide +kernel
theorem dL_isJunior_14 : decode cL_isJunior 14 = .ok (.lconst 0, 1) := by decide +kernel
theorem dL_isJunior_15 : decode cL_isJunior 15 = .ok (.lastore, 1) := by decide +kernel
theorem dL_isJunior_16 : decode cL_isJunior 16 = .ok (.goto 6, 3) := by decide +kernel
theorem dL_isJunior_19 : decode cL_isJunior 19 = .ok (.astore_n 3, 1) := by decide +kernel
theorem dL_isJunior_20 : decode cL_isJunior 20 = .ok (.iconst 1, 1) := by decide +kernel
theorem dL_isJunior_21 : decode cL_isJunior 21 = .ok (.ireturn, 1) := by decide +kernel
theorem dL_isJunior_22 : decode cL_isJunior 22 = .ok (.iconst 0, 1) := by decide +kernel
theorem dL_isJunior_23 : decode cL_isJunior 23 = .ok (.ireturn, 1) := by decide +kernel
set_option maxRecDepth 20000 in
theorem ggL_assessed_X3_assessed : GoodIn wsL_assessed wsX3_assessed := goodIn_ca (goodIn_r _ [6, 7, 8, 9, 5, 10, 11, 12, 13, 14, 15, 16, 17, 18, 19, 20, 21, 22, 23, 24, 25, 26, 27, 28, 29, 30, 31, 32, 33, 34, 35] (by decide +kernel) (by decide +kernel)) (goodIn_sub (fun _ h => List.mem_cons_of_mem _ (List.mem_append_right _ h)) (by decide +kernel))
set_option maxRecDepth 20000 in
theorem gL_assessed_X3_assessed : GoodIn wsL_assessed (wsV RL 67 RX3 yX3_assessed wsX3_assessed) := goodIn_app (goodIn_of _ (by decide +kernel)) ggL_assessed_X3_assessed
theorem dL_assessed_0 : decode cL_assessed 0 = .ok (.aload_n 2, 1) := by decide +kernel
theorem dL_assessed_1 : decode cL_assessed 1 = .ok (.iconst 0, 1) := by decide +kernel
theorem dL_assessed_2 : decode cL_assessed 2 = .ok (.aload_n 0, 1) := by decide +kernel
theorem dL_assessed_3 : decode cL_assessed 3 = .ok (.iload_n 1, 1) := by decide +kernel
theorem dL_assessed_4 : decode cL_assessed 4 = .ok (.invokevirtual 67, 3) := by decide +kernel
theorem dL_assessed_7 : decode cL_assessed 7 = .ok (.i2l, 1) := by decide +kernel
theorem dL_assessed_8 : decode cL_assessed 8 = .ok (.lastore, 1) := by decide +kernel
theorem dL_assessed_9 : decode cL_assessed 9 = .ok (.goto 6, 3) := by decide +kernel
theorem dL_assessed_12 : decode cL_assessed 12 = .ok (.astore_n 3, 1) := by decide +kernel
theorem dL_assessed_13 : decode cL_assessed 13 = .ok (.iconst 1, 1) := by decide +kernel
theorem dL_assessed_14 : decode cL_assessed 14 = .ok (.ireturn, 1) := by decide +kernel
theorem dL_assessed_15 : decode cL_assessed 15 = .ok (.iconst 0, 1) := by decide +kernel
theorem dL_assessed_16 : decode cL_assessed 16 = .ok (.ireturn, 1) := by decide +kernel
set_option maxRecDepth 20000 in
theorem ggL_clientLots_X3_clientLots : GoodIn wsL_clientLots wsX3_clientLots := goodIn_ca (goodIn_r _ [6, 7, 8, 9, 5, 10, 11, 12, 13, 14, 15, 16, 17, 18, 19, 20, 21, 22, 23, 24, 25, 26, 27, 28, 29, 30, 31, 32, 33, 34, 35] (by decide +kernel) (by decide +kernel)) (goodIn_sub (fun _ h => List.mem_cons_of_mem _ (List.mem_append_right _ h)) (by decide +kernel))
set_option maxRecDepth 20000 in
theorem gL_clientLots_X3_clientLots : GoodIn wsL_clientLots (wsV RL 70 RX3 yX3_clientLots wsX3_clientLots) := goodIn_app (goodIn_of _ (by decide +kernel)) ggL_clientLots_X3_clientLots
theorem dL_clientLots_0 : decode cL_clientLots 0 = .ok (.aload_n 2, 1) := by decide +kernel
theorem dL_clientLots_1 : decode cL_clientLots 1 = .ok (.iconst 0, 1) := by decide +kernel
theorem dL_clientLots_2 : decode cL_clientLots 2 = .ok (.aload_n 0, 1) := by decide +kernel
theorem dL_clientLots_3 : decode cL_clientLots 3 = .ok (.iload_n 1, 1) := by decide +kernel
theorem dL_clientLots_4 : decode cL_clientLots 4 = .ok (.invokevirtual 70, 3) := by decide +kernel
theorem dL_clientLots_7 : decode cL_clientLots 7 = .ok (.i2l, 1) := by decide +kernel
theorem dL_clientLots_8 : decode cL_clientLots 8 = .ok (.lastore, 1) := by decide +kernel
theorem dL_clientLots_9 : decode cL_clientLots 9 = .ok (.goto 6, 3) := by decide +kernel
theorem dL_clientLots_12 : decode cL_clientLots 12 = .ok (.astore_n 3, 1) := by decide +kernel
theorem dL_clientLots_13 : decode cL_clientLots 13 = .ok (.iconst 1, 1) := by decide +kernel
theorem dL_clientLots_14 : decode cL_clientLots 14 = .ok (.ireturn, 1) := by decide +kernel
theorem dL_clientLots_15 : decode cL_clientLots 15 = .ok (.iconst 0, 1) := by decide +kernel
theorem dL_clientLots_16 : decode cL_clientLots 16 = .ok (.ireturn, 1) := by decide +kernel
set_option maxRecDepth 20000 in
theorem ggL_won_X3_won : GoodIn wsL_won wsX3_won := goodIn_ca (goodIn_r _ [6, 7, 8, 9, 5, 10, 11, 12, 13, 14, 15, 16, 17, 18, 19, 20, 21, 22, 23, 24, 25, 26, 27, 28, 29, 30, 31, 32, 33, 34, 35] (by decide +kernel) (by decide +kernel)) (goodIn_sub (fun _ h => List.mem_cons_of_mem _ (List.mem_append_right _ h)) (by decide +kernel))
set_option maxRecDepth 20000 in
theorem gL_won_X3_won : GoodIn wsL_won (wsV RL 73 RX3 yX3_won wsX3_won) := goodIn_app (goodIn_of _ (by decide +kernel)) ggL_won_X3_won
theorem dL_won_0 : decode cL_won 0 = .ok (.aload_n 2, 1) := by decide +kernel
theorem dL_won_1 : decode cL_won 1 = .ok (.iconst 0, 1) := by decide +kernel
theorem dL_won_2 : decode cL_won 2 = .ok (.aload_n 0, 1) := by decide +kernel
theorem dL_won_3 : decode cL_won 3 = .ok (.iload_n 1, 1) := by decide +kernel
theorem dL_won_4 : decode cL_won 4 = .ok (.invokevirtual 73, 3) := by decide +kernel
theorem dL_won_7 : decode cL_won 7 = .ok (.i2l, 1) := by decide +kernel
theorem dL_won_8 : decode cL_won 8 = .ok (.lastore, 1) := by decide +kernel
theorem dL_won_9 : decode cL_won 9 = .ok (.goto 6, 3) := by decide +kernel
theorem dL_won_12 : decode cL_won 12 = .ok (.astore_n 3, 1) := by decide +kernel
theorem dL_won_13 : decode cL_won 13 = .ok (.iconst 1, 1) := by decide +kernel
theorem dL_won_14 : decode cL_won 14 = .ok (.ireturn, 1) := by decide +kernel
theorem dL_won_15 : decode cL_won 15 = .ok (.iconst 0, 1) := by decide +kernel
theorem dL_won_16 : decode cL_won 16 = .ok (.ireturn, 1) := by decide +kernel
set_option maxRecDepth 20000 in
theorem ggL_law_X3_init : GoodIn wsL_law wsX3_init := goodIn_r _ [9, 10, 11, 12, 13, 14, 15, 16, 17, 18, 19, 20, 21, 22, 23, 24, 25, 26, 27, 28, 29, 30, 31, 32, 33, 34, 35, 36, 37, 38, 39, 40, 41, 42, 43, 44, 45, 46, 47, 48, 49, 50, 51, 52, 53, 54, 55, 56, 57, 58, 535, 536, 537, 538, 539, 540, 541, 542, 569, 570, 571, 572, 573, 574, 575, 576, 577, 578, 579, 580, 581, 582, 583, 584, 585, 586] (by decide +kernel) (by decide +kernel)
set_option maxRecDepth 20000 in
theorem gL_law_X3_init : GoodIn wsL_law (wsX3_init) := ggL_law_X3_init
set_option maxRecDepth 20000 in
theorem ggL_law_X4_init : GoodIn wsL_law wsX4_init := goodIn_r _ [61, 62, 11, 12, 34, 63, 64, 65, 66, 67, 68, 69, 70, 71, 72, 73, 74, 75, 76, 77, 78, 79, 80, 543, 544, 545, 546, 547, 548, 549, 550, 551, 552, 553, 554, 555, 556, 557, 558, 559, 560, 561, 562, 563, 564, 565, 566, 567, 568] (by decide +kernel) (by decide +kernel)
set_option maxRecDepth 20000 in
theorem gL_law_X4_init : GoodIn wsL_law (wsX4_init) := ggL_law_X4_init
set_option maxRecDepth 20000 in
theorem ggL_law_L_addMember : GoodIn wsL_law wsL_addMember := goodIn_ca (goodIn_ca (goodIn_r _ [84, 85, 86, 87, 88, 89, 2, 90, 91, 92, 93, 23, 14, 94, 95, 96, 97, 98, 99, 29, 100, 101, 50, 51, 52, 535, 536, 537, 538, 539, 540, 541, 542, 574, 575, 576, 577, 578, 579, 580, 581, 582, 583, 584, 585, 586] (by decide +kernel) (by decide +kernel)) (goodIn_sub (fun _ h => List.mem_append_left _ (List.mem_append_left _ (List.mem_append_right _ h))) (by decide +kernel))) (goodIn_sub (fun _ h => List.mem_append_left _ (List.mem_append_right _ h)) (by decide +kernel))
set_option maxRecDepth 20000 in
theorem gL_law_L_addMember : GoodIn wsL_law (va_wsS RL 80 yL_addMember wsL_addMember) := goodIn_app (goodIn_of _ (by decide +kernel)) ggL_law_L_addMember
set_option maxRecDepth 20000 in
theorem ggL_law_X4_addMember : GoodIn wsL_law wsX4_addMember := goodIn_r _ [105, 106, 107, 108, 63, 64, 65, 109, 110, 5, 111, 112, 113, 114, 115, 543, 544, 545, 546, 547, 548, 549, 550, 551, 552, 553, 554, 555, 556, 557, 558, 559, 560, 561, 562, 563, 564, 565, 566, 567, 568] (by decide +kernel) (by decide +kernel)
set_option maxRecDepth 20000 in
theorem gL_law_X4_addMember : GoodIn wsL_law (wsV RL 85 RX4 yX4_addMember wsX4_addMember) := goodIn_app (goodIn_of _ (by decide +kernel)) ggL_law_X4_addMember
set_option maxRecDepth 20000 in
theorem ggL_law_X4_thrown : GoodIn wsL_law wsX4_thrown := goodIn_r _ [119, 106, 543, 544, 545, 546, 547, 548, 549, 550, 551, 552, 553, 554, 555, 556, 557, 558, 559, 560, 561, 562, 563, 564, 565, 566, 567, 568] (by decide +kernel) (by decide +kernel)
set_option maxRecDepth 20000 in
theorem gL_law_X4_thrown : GoodIn wsL_law (wsV RL 86 RX4 yX4_thrown wsX4_thrown) := goodIn_app (goodIn_of _ (by decide +kernel)) ggL_law_X4_thrown
set_option maxRecDepth 20000 in
theorem ggL_law_L_addClient : GoodIn wsL_law wsL_addClient := goodIn_ca (goodIn_ca (goodIn_ca (goodIn_r _ [122, 123, 85, 86, 124, 125, 126, 2, 127, 91, 92, 128, 129, 130, 131, 132, 133, 23, 14, 94, 95, 96, 97, 98, 134, 135, 136, 137, 29, 138, 139, 49, 140, 141, 142, 47, 46, 48, 143, 144, 145, 146, 52, 535, 536, 537, 538, 539, 540, 541, 542, 574, 575, 576, 577, 578, 579, 580, 581, 582, 583, 584, 585, 586] (by decide +kernel) (by decide +kernel)) (goodIn_sub (fun _ h => List.mem_append_left _ (List.mem_append_left _ (List.mem_append_right _ h))) (by decide +kernel))) (goodIn_sub (fun _ h => List.mem_append_right _ h) (by decide +kernel))) (goodIn_sub (fun _ h => List.mem_append_left _ (List.mem_append_right _ h)) (by decide +kernel))
set_option maxRecDepth 20000 in
theorem gL_law_L_addClient : GoodIn wsL_law (va_wsS RL 89 yL_addClient wsL_addClient) := goodIn_app (goodIn_of _ (by decide +kernel)) ggL_law_L_addClient
set_option maxRecDepth 20000 in
theorem ggL_law_X4_addClient : GoodIn wsL_law wsX4_addClient := goodIn_r _ [150, 106, 72, 151, 73, 74, 152, 153, 154, 155, 5, 156, 108, 109, 110, 111, 112, 113, 114, 115, 157, 158, 159, 160, 68, 161, 162, 163, 164, 65, 165, 166, 167, 168, 543, 544, 545, 546, 547, 548, 549, 550, 551, 552, 553, 554, 555, 556, 557, 558, 559, 560, 561, 562, 563, 564, 565, 566, 567, 568] (by decide +kernel) (by decide +kernel)
set_option maxRecDepth 20000 in
theorem gL_law_X4_addClient : GoodIn wsL_law (wsV RL 92 RX4 yX4_addClient wsX4_addClient) := goodIn_app (goodIn_of _ (by decide +kernel)) ggL_law_X4_addClient
set_option maxRecDepth 20000 in
theorem ggL_law_L_setGain : GoodIn wsL_law wsL_setGain := goodIn_ca (goodIn_ca (goodIn_ca (goodIn_r _ [171, 123, 85, 86, 172, 173, 174, 2, 175, 93, 128, 129, 130, 131, 132, 133, 23, 14, 94, 95, 96, 97, 98, 134, 135, 136, 91, 92, 137, 29, 138, 139, 49, 574, 575, 576, 577, 578, 579, 580, 581, 582, 583, 584, 585, 586, 535, 536, 537, 538, 539, 540, 541, 542] (by decide +kernel) (by decide +kernel)) (goodIn_sub (fun _ h => List.mem_append_right _ h) (by decide +kernel))) (goodIn_sub (fun _ h => List.mem_append_left _ (List.mem_append_right _ h)) (by decide +kernel))) (goodIn_sub (fun _ h => List.mem_append_left _ (List.mem_append_left _ (List.mem_append_right _ h))) (by decide +kernel))
set_option maxRecDepth 20000 in
theorem gL_law_L_setGain : GoodIn wsL_law (va_wsS RL 93 yL_setGain wsL_setGain) := goodIn_app (goodIn_of _ (by decide +kernel)) ggL_law_L_setGain
set_option maxRecDepth 20000 in
theorem ggL_law_X4_setGain : GoodIn wsL_law wsX4_setGain := goodIn_r _ [179, 106, 107, 66, 153, 154, 155, 5, 156, 108, 109, 110, 111, 112, 113, 114, 115, 157, 158, 159, 160, 68, 543, 544, 545, 546, 547, 548, 549, 550, 551, 552, 553, 554, 555, 556, 557, 558, 559, 560, 561, 562, 563, 564, 565, 566, 567, 568] (by decide +kernel) (by decide +kernel)
set_option maxRecDepth 20000 in
theorem gL_law_X4_setGain : GoodIn wsL_law (wsV RL 95 RX4 yX4_setGain wsX4_setGain) := goodIn_app (goodIn_of _ (by decide +kernel)) ggL_law_X4_setGain
set_option maxRecDepth 20000 in
theorem ggL_law_L_setTested : GoodIn wsL_law wsL_setTested := goodIn_ca (goodIn_ca (goodIn_ca (goodIn_r _ [182, 123, 85, 86, 183, 184, 185, 2, 186, 93, 128, 129, 130, 131, 132, 133, 23, 14, 94, 95, 96, 97, 98, 134, 135, 136, 91, 92, 137, 29, 138, 139, 49, 574, 575, 576, 577, 578, 579, 580, 581, 582, 583, 584, 585, 586, 535, 536, 537, 538, 539, 540, 541, 542] (by decide +kernel) (by decide +kernel)) (goodIn_sub (fun _ h => List.mem_append_right _ h) (by decide +kernel))) (goodIn_sub (fun _ h => List.mem_append_left _ (List.mem_append_right _ h)) (by decide +kernel))) (goodIn_sub (fun _ h => List.mem_append_left _ (List.mem_append_left _ (List.mem_append_right _ h))) (by decide +kernel))
set_option maxRecDepth 20000 in
theorem gL_law_L_setTested : GoodIn wsL_law (va_wsS RL 96 yL_setTested wsL_setTested) := goodIn_app (goodIn_of _ (by decide +kernel)) ggL_law_L_setTested
set_option maxRecDepth 20000 in
theorem ggL_law_X4_setTested : GoodIn wsL_law wsX4_setTested := goodIn_r _ [190, 106, 107, 67, 153, 154, 155, 5, 156, 108, 109, 110, 111, 112, 113, 114, 115, 157, 158, 159, 160, 68, 543, 544, 545, 546, 547, 548, 549, 550, 551, 552, 553, 554, 555, 556, 557, 558, 559, 560, 561, 562, 563, 564, 565, 566, 567, 568] (by decide +kernel) (by decide +kernel)
set_option maxRecDepth 20000 in
theorem gL_law_X4_setTested : GoodIn wsL_law (wsV RL 98 RX4 yX4_setTested wsX4_setTested) := goodIn_app (goodIn_of _ (by decide +kernel)) ggL_law_X4_setTested
set_option maxRecDepth 20000 in
theorem ggL_law_L_setCapital : GoodIn wsL_law wsL_setCapital := goodIn_ca (goodIn_r _ [193, 85, 194, 195, 196, 2, 197, 93, 24, 94, 95, 96, 97, 98, 535, 536, 537, 538, 539, 540, 541, 542] (by decide +kernel) (by decide +kernel)) (goodIn_sub (fun _ h => List.mem_append_left _ (List.mem_append_right _ h)) (by decide +kernel))
set_option maxRecDepth 20000 in
theorem gL_law_L_setCapital : GoodIn wsL_law (va_wsS RL 99 yL_setCapital wsL_setCapital) := goodIn_app (goodIn_of _ (by decide +kernel)) ggL_law_L_setCapital
set_option maxRecDepth 20000 in
theorem ggL_law_X4_setCapital : GoodIn wsL_law wsX4_setCapital := goodIn_r _ [201, 106, 107, 202, 109, 110, 5, 111, 112, 113, 114, 115, 543, 544, 545, 546, 547, 548, 549, 550, 551, 552, 553, 554, 555, 556, 557, 558, 559, 560, 561, 562, 563, 564, 565, 566, 567, 568] (by decide +kernel) (by decide +kernel)
set_option maxRecDepth 20000 in
theorem gL_law_X4_setCapital : GoodIn wsL_law (wsV RL 102 RX4 yX4_setCapital wsX4_setCapital) := goodIn_app (goodIn_of _ (by decide +kernel)) ggL_law_X4_setCapital
set_option maxRecDepth 20000 in
theorem ggL_law_L_giveNotice : GoodIn wsL_law wsL_giveNotice := goodIn_ca (goodIn_ca (goodIn_r _ [205, 123, 86, 206, 207, 208, 2, 209, 91, 92, 128, 129, 130, 131, 132, 133, 23, 14, 210, 211, 212, 213, 27, 574, 575, 576, 577, 578, 579, 580, 581, 582, 583, 584, 585, 586, 535, 536, 537, 538, 539, 540, 541, 542] (by decide +kernel) (by decide +kernel)) (goodIn_sub (fun _ h => List.mem_append_left _ (List.mem_append_left _ (List.mem_append_right _ h))) (by decide +kernel))) (goodIn_sub (fun _ h => List.mem_append_right _ h) (by decide +kernel))
set_option maxRecDepth 20000 in
theorem gL_law_L_giveNotice : GoodIn wsL_law (va_wsS RL 103 yL_giveNotice wsL_giveNotice) := goodIn_app (goodIn_of _ (by decide +kernel)) ggL_law_L_giveNotice
set_option maxRecDepth 20000 in
theorem ggL_law_X4_giveNotice : GoodIn wsL_law wsX4_giveNotice := goodIn_r _ [217, 106, 68, 75, 153, 154, 155, 5, 156, 108, 109, 110, 111, 112, 113, 114, 115, 543, 544, 545, 546, 547, 548, 549, 550, 551, 552, 553, 554, 555, 556, 557, 558, 559, 560, 561, 562, 563, 564, 565, 566, 567, 568] (by decide +kernel) (by decide +kernel)
set_option maxRecDepth 20000 in
theorem gL_law_X4_giveNotice : GoodIn wsL_law (wsV RL 106 RX4 yX4_giveNotice wsX4_giveNotice) := goodIn_app (goodIn_of _ (by decide +kernel)) ggL_law_X4_giveNotice
set_option maxRecDepth 20000 in
theorem ggL_law_L_size : GoodIn wsL_law wsL_size := goodIn_ca (goodIn_r _ [220, 86, 221, 222, 223, 2, 224, 23, 14, 22, 210, 211, 212, 213, 91, 92, 27, 225, 226, 227, 228, 229, 230, 231, 232, 233, 234, 235, 137, 29, 138, 139, 49, 236, 21, 237, 238, 40, 41, 239, 240, 241, 42, 242, 243, 244, 245, 246, 247, 248, 249, 250, 251, 252, 253, 254, 255, 256, 257, 258, 259, 260, 261, 51, 262, 535, 536, 537, 538, 539, 540, 541, 542, 574, 575, 576, 577, 578, 579, 580, 581, 582, 583, 584, 585, 586, 571, 572, 573] (by decide +kernel) (by decide +kernel)) (goodIn_sub (fun _ h => List.mem_append_left _ (List.mem_append_left _ (List.mem_append_right _ h))) (by decide +kernel))
set_option maxRecDepth 20000 in
theorem gL_law_L_size : GoodIn wsL_law (va_wsS RL 107 yL_size wsL_size) := goodIn_app (goodIn_of _ (by decide +kernel)) ggL_law_L_size
set_option maxRecDepth 20000 in
theorem ggL_law_X4_size : GoodIn wsL_law wsX4_size := goodIn_r _ [266, 106, 75, 108, 67, 78, 63, 79, 267, 80, 64, 112, 113, 114, 5, 115, 157, 158, 159, 160, 68, 268, 269, 270, 271, 543, 544, 545, 546, 547, 548, 549, 550, 551, 552, 553, 554, 555, 556, 557, 558, 559, 560, 561, 562, 563, 564, 565, 566, 567, 568] (by decide +kernel) (by decide +kernel)
set_option maxRecDepth 20000 in
theorem gL_law_X4_size : GoodIn wsL_law (wsV RL 110 RX4 yX4_size wsX4_size) := goodIn_app (goodIn_of _ (by decide +kernel)) ggL_law_X4_size
set_option maxRecDepth 20000 in
theorem ggL_law_L_fail : GoodIn wsL_law wsL_fail := goodIn_ca (goodIn_ca (goodIn_ca (goodIn_r _ [274, 123, 85, 86, 275, 276, 277, 2, 278, 23, 14, 27, 18, 128, 129, 130, 131, 132, 133, 94, 95, 96, 97, 98, 134, 135, 136, 91, 92, 137, 29, 138, 139, 49, 210, 211, 212, 213, 279, 280, 281, 282, 283, 284, 285, 286, 140, 141, 142, 47, 46, 48, 143, 144, 145, 146, 52, 287, 288, 289, 290, 17, 291, 292, 293, 230, 231, 232, 36, 35, 535, 536, 537, 538, 539, 540, 541, 542, 574, 575, 576, 577, 578, 579, 580, 581, 582, 583, 584, 585, 586, 569, 570] (by decide +kernel) (by decide +kernel)) (goodIn_sub (fun _ h => List.mem_append_right _ h) (by decide +kernel))) (goodIn_sub (fun _ h => List.mem_append_left _ (List.mem_append_right _ h)) (by decide +kernel))) (goodIn_sub (fun _ h => List.mem_append_left _ (List.mem_append_left _ (List.mem_append_right _ h))) (by decide +kernel))
set_option maxRecDepth 20000 in
theorem gL_law_L_fail : GoodIn wsL_law (va_wsS RL 111 yL_fail wsL_fail) := goodIn_app (goodIn_of _ (by decide +kernel)) ggL_law_L_fail
set_option maxRecDepth 20000 in
theorem ggL_law_X4_fail : GoodIn wsL_law wsX4_fail := goodIn_r _ [297, 106, 75, 68, 298, 72, 73, 74, 152, 77, 108, 64, 76, 153, 154, 155, 5, 156, 109, 110, 111, 112, 113, 114, 115, 157, 158, 159, 160, 299, 300, 301, 302, 151, 303, 304, 305, 306, 161, 162, 163, 164, 65, 165, 166, 167, 168, 543, 544, 545, 546, 547, 548, 549, 550, 551, 552, 553, 554, 555, 556, 557, 558, 559, 560, 561, 562, 563, 564, 565, 566, 567, 568] (by decide +kernel) (by decide +kernel)
set_option maxRecDepth 20000 in
theorem gL_law_X4_fail : GoodIn wsL_law (wsV RL 113 RX4 yX4_fail wsX4_fail) := goodIn_app (goodIn_of _ (by decide +kernel)) ggL_law_X4_fail
set_option maxRecDepth 20000 in
theorem ggL_law_L_bid : GoodIn wsL_law wsL_bid := goodIn_ca (goodIn_ca (goodIn_ca (goodIn_r _ [309, 123, 85, 86, 310, 311, 312, 2, 313, 132, 133, 91, 92, 27, 18, 128, 129, 130, 131, 23, 14, 314, 17, 315, 316, 36, 94, 95, 96, 97, 98, 134, 135, 136, 137, 29, 138, 139, 49, 317, 318, 319, 35, 320, 321, 322, 535, 536, 537, 538, 539, 540, 541, 542, 569, 570, 574, 575, 576, 577, 578, 579, 580, 581, 582, 583, 584, 585, 586] (by decide +kernel) (by decide +kernel)) (goodIn_sub (fun _ h => List.mem_append_right _ h) (by decide +kernel))) (goodIn_sub (fun _ h => List.mem_append_left _ (List.mem_append_left _ (List.mem_append_right _ h))) (by decide +kernel))) (goodIn_sub (fun _ h => List.mem_append_left _ (List.mem_append_right _ h)) (by decide +kernel))
set_option maxRecDepth 20000 in
theorem gL_law_L_bid : GoodIn wsL_law (va_wsS RL 114 yL_bid wsL_bid) := goodIn_app (goodIn_of _ (by decide +kernel)) ggL_law_L_bid
set_option maxRecDepth 20000 in
theorem ggL_law_X4_bid : GoodIn wsL_law wsX4_bid := goodIn_r _ [326, 106, 75, 298, 76, 153, 154, 155, 5, 156, 108, 109, 110, 111, 112, 113, 114, 115, 157, 158, 159, 160, 68, 543, 544, 545, 546, 547, 548, 549, 550, 551, 552, 553, 554, 555, 556, 557, 558, 559, 560, 561, 562, 563, 564, 565, 566, 567, 568] (by decide +kernel) (by decide +kernel)
set_option maxRecDepth 20000 in
theorem gL_law_X4_bid : GoodIn wsL_law (wsV RL 117 RX4 yX4_bid wsX4_bid) := goodIn_app (goodIn_of _ (by decide +kernel)) ggL_law_X4_bid
set_option maxRecDepth 20000 in
theorem ggL_law_L_close : GoodIn wsL_law wsL_close := goodIn_ca (goodIn_r _ [329, 86, 330, 331, 332, 2, 333, 91, 92, 27, 233, 234, 231, 235, 25, 14, 26, 334, 335, 336, 337, 18, 338, 17, 339, 340, 35, 317, 318, 319, 341, 342, 343, 344, 23, 137, 29, 138, 139, 49, 345, 346, 347, 36, 348, 349, 350, 351, 352, 353, 354, 355, 356, 229, 230, 232, 24, 357, 358, 359, 360, 22, 236, 21, 237, 238, 40, 41, 239, 240, 241, 42, 242, 243, 244, 245, 246, 247, 248, 249, 250, 251, 252, 253, 254, 255, 256, 257, 258, 361, 362, 363, 364, 365, 366, 367, 368, 369, 370, 371, 372, 373, 374, 375, 50, 51, 53, 376, 287, 288, 289, 47, 48, 535, 536, 537, 538, 539, 540, 541, 542, 569, 570, 574, 575, 576, 577, 578, 579, 580, 581, 582, 583, 584, 585, 586, 571, 572, 573] (by decide +kernel) (by decide +kernel)) (goodIn_sub (fun _ h => List.mem_append_left _ (List.mem_append_left _ (List.mem_append_right _ h))) (by decide +kernel))
set_option maxRecDepth 20000 in
theorem gL_law_L_close : GoodIn wsL_law (va_wsS RL 118 yL_close wsL_close) := goodIn_app (goodIn_of _ (by decide +kernel)) ggL_law_L_close
set_option maxRecDepth 20000 in
theorem ggL_law_X4_close : GoodIn wsL_law wsX4_close := goodIn_r _ [380, 106, 75, 298, 76, 71, 108, 381, 63, 64, 202, 382, 68, 112, 113, 114, 5, 115, 383, 384, 385, 386, 157, 158, 159, 160, 387, 388, 389, 390, 69, 391, 392, 393, 394, 78, 79, 80, 268, 269, 270, 271, 395, 396, 397, 398, 77, 70, 399, 400, 401, 402, 66, 403, 404, 405, 406, 151, 72, 543, 544, 545, 546, 547, 548, 549, 550, 551, 552, 553, 554, 555, 556, 557, 558, 559, 560, 561, 562, 563, 564, 565, 566, 567, 568] (by decide +kernel) (by decide +kernel)
set_option maxRecDepth 20000 in
theorem gL_law_X4_close : GoodIn wsL_law (wsV RL 120 RX4 yX4_close wsX4_close) := goodIn_app (goodIn_of _ (by decide +kernel)) ggL_law_X4_close
set_option maxRecDepth 20000 in
theorem ggL_law_X3_members : GoodIn wsL_law wsX3_members := goodIn_r _ [410, 23, 535, 536, 537, 538, 539, 540, 541, 542] (by decide +kernel) (by decide +kernel)
set_option maxRecDepth 20000 in
theorem gL_law_X3_members : GoodIn wsL_law (wsV RL 121 RX3 yX3_members wsX3_members) := goodIn_app (goodIn_of _ (by decide +kernel)) ggL_law_X3_members
set_option maxRecDepth 20000 in
theorem ggL_law_X4_members : GoodIn wsL_law wsX4_members := goodIn_r _ [414, 106, 108, 543, 544, 545, 546, 547, 548, 549, 550, 551, 552, 553, 554, 555, 556, 557, 558, 559, 560, 561, 562, 563, 564, 565, 566, 567, 568] (by decide +kernel) (by decide +kernel)
set_option maxRecDepth 20000 in
theorem gL_law_X4_members : GoodIn wsL_law (wsV RL 124 RX4 yX4_members wsX4_members) := goodIn_app (goodIn_of _ (by decide +kernel)) ggL_law_X4_members
set_option maxRecDepth 20000 in
theorem ggL_law_L_state : GoodIn wsL_law wsL_state := goodIn_ca (goodIn_r _ [417, 123, 418, 419, 420, 2, 421, 128, 129, 130, 131, 132, 133, 23, 14, 574, 575, 576, 577, 578, 579, 580, 581, 582, 583, 584, 585, 586, 535, 536, 537, 538, 539, 540, 541, 542] (by decide +kernel) (by decide +kernel)) (goodIn_sub (fun _ h => List.mem_append_right _ h) (by decide +kernel))
set_option maxRecDepth 20000 in
theorem gL_law_L_state : GoodIn wsL_law (va_wsS RL 125 yL_state wsL_state) := goodIn_app (goodIn_of _ (by decide +kernel)) ggL_law_L_state
set_option maxRecDepth 20000 in
theorem ggL_law_X4_state : GoodIn wsL_law wsX4_state := goodIn_r _ [425, 106, 68, 153, 154, 155, 5, 156, 108, 109, 110, 111, 112, 113, 114, 115, 543, 544, 545, 546, 547, 548, 549, 550, 551, 552, 553, 554, 555, 556, 557, 558, 559, 560, 561, 562, 563, 564, 565, 566, 567, 568] (by decide +kernel) (by decide +kernel)
set_option maxRecDepth 20000 in
theorem gL_law_X4_state : GoodIn wsL_law (wsV RL 127 RX4 yX4_state wsX4_state) := goodIn_app (goodIn_of _ (by decide +kernel)) ggL_law_X4_state
set_option maxRecDepth 20000 in
theorem ggL_law_L_margin : GoodIn wsL_law wsL_margin := goodIn_ca (goodIn_r _ [428, 123, 429, 430, 431, 2, 432, 128, 129, 130, 131, 132, 133, 23, 14, 574, 575, 576, 577, 578, 579, 580, 581, 582, 583, 584, 585, 586, 535, 536, 537, 538, 539, 540, 541, 542] (by decide +kernel) (by decide +kernel)) (goodIn_sub (fun _ h => List.mem_append_right _ h) (by decide +kernel))
set_option maxRecDepth 20000 in
theorem gL_law_L_margin : GoodIn wsL_law (va_wsS RL 128 yL_margin wsL_margin) := goodIn_app (goodIn_of _ (by decide +kernel)) ggL_law_L_margin
set_option maxRecDepth 20000 in
theorem ggL_law_X4_margin : GoodIn wsL_law wsX4_margin := goodIn_r _ [436, 106, 63, 153, 154, 155, 5, 156, 108, 109, 110, 111, 112, 113, 114, 115, 543, 544, 545, 546, 547, 548, 549, 550, 551, 552, 553, 554, 555, 556, 557, 558, 559, 560, 561, 562, 563, 564, 565, 566, 567, 568] (by decide +kernel) (by decide +kernel)
set_option maxRecDepth 20000 in
theorem gL_law_X4_margin : GoodIn wsL_law (wsV RL 130 RX4 yX4_margin wsX4_margin) := goodIn_app (goodIn_of _ (by decide +kernel)) ggL_law_X4_margin
set_option maxRecDepth 20000 in
theorem ggL_law_L_share : GoodIn wsL_law wsL_share := goodIn_ca (goodIn_r _ [439, 123, 440, 441, 442, 2, 443, 128, 129, 130, 131, 132, 133, 23, 14, 574, 575, 576, 577, 578, 579, 580, 581, 582, 583, 584, 585, 586, 535, 536, 537, 538, 539, 540, 541, 542] (by decide +kernel) (by decide +kernel)) (goodIn_sub (fun _ h => List.mem_append_right _ h) (by decide +kernel))
set_option maxRecDepth 20000 in
theorem gL_law_L_share : GoodIn wsL_law (va_wsS RL 131 yL_share wsL_share) := goodIn_app (goodIn_of _ (by decide +kernel)) ggL_law_L_share
set_option maxRecDepth 20000 in
theorem ggL_law_X4_share : GoodIn wsL_law wsX4_share := goodIn_r _ [447, 106, 64, 153, 154, 155, 5, 156, 108, 109, 110, 111, 112, 113, 114, 115, 543, 544, 545, 546, 547, 548, 549, 550, 551, 552, 553, 554, 555, 556, 557, 558, 559, 560, 561, 562, 563, 564, 565, 566, 567, 568] (by decide +kernel) (by decide +kernel)
set_option maxRecDepth 20000 in
theorem gL_law_X4_share : GoodIn wsL_law (wsV RL 133 RX4 yX4_share wsX4_share) := goodIn_app (goodIn_of _ (by decide +kernel)) ggL_law_X4_share
set_option maxRecDepth 20000 in
theorem ggL_law_L_gain : GoodIn wsL_law wsL_gain := goodIn_ca (goodIn_r _ [450, 123, 451, 452, 453, 2, 454, 128, 129, 130, 131, 132, 133, 23, 14, 574, 575, 576, 577, 578, 579, 580, 581, 582, 583, 584, 585, 586, 535, 536, 537, 538, 539, 540, 541, 542] (by decide +kernel) (by decide +kernel)) (goodIn_sub (fun _ h => List.mem_append_right _ h) (by decide +kernel))
set_option maxRecDepth 20000 in
theorem gL_law_L_gain : GoodIn wsL_law (va_wsS RL 134 yL_gain wsL_gain) := goodIn_app (goodIn_of _ (by decide +kernel)) ggL_law_L_gain
set_option maxRecDepth 20000 in
theorem ggL_law_X4_gain : GoodIn wsL_law wsX4_gain := goodIn_r _ [458, 106, 66, 153, 154, 155, 5, 156, 108, 109, 110, 111, 112, 113, 114, 115, 543, 544, 545, 546, 547, 548, 549, 550, 551, 552, 553, 554, 555, 556, 557, 558, 559, 560, 561, 562, 563, 564, 565, 566, 567, 568] (by decide +kernel) (by decide +kernel)
set_option maxRecDepth 20000 in
theorem gL_law_X4_gain : GoodIn wsL_law (wsV RL 136 RX4 yX4_gain wsX4_gain) := goodIn_app (goodIn_of _ (by decide +kernel)) ggL_law_X4_gain
set_option maxRecDepth 20000 in
theorem ggL_law_L_isJunior : GoodIn wsL_law wsL_isJunior := goodIn_ca (goodIn_r _ [461, 123, 462, 463, 464, 2, 465, 128, 129, 130, 131, 132, 133, 23, 14, 574, 575, 576, 577, 578, 579, 580, 581, 582, 583, 584, 585, 586, 535, 536, 537, 538, 539, 540, 541, 542] (by decide +kernel) (by decide +kernel)) (goodIn_sub (fun _ h => List.mem_append_right _ h) (by decide +kernel))
set_option maxRecDepth 20000 in
theorem gL_law_L_isJunior : GoodIn wsL_law (va_wsS RL 137 yL_isJunior wsL_isJunior) := goodIn_app (goodIn_of _ (by decide +kernel)) ggL_law_L_isJunior
set_option maxRecDepth 20000 in
theorem ggL_law_X4_isJunior : GoodIn wsL_law wsX4_isJunior := goodIn_r _ [469, 106, 69, 153, 154, 155, 5, 156, 108, 109, 110, 111, 112, 113, 114, 115, 543, 544, 545, 546, 547, 548, 549, 550, 551, 552, 553, 554, 555, 556, 557, 558, 559, 560, 561, 562, 563, 564, 565, 566, 567, 568] (by decide +kernel) (by decide +kernel)
set_option maxRecDepth 20000 in
theorem gL_law_X4_isJunior : GoodIn wsL_law (wsV RL 139 RX4 yX4_isJunior wsX4_isJunior) := goodIn_app (goodIn_of _ (by decide +kernel)) ggL_law_X4_isJunior
set_option maxRecDepth 20000 in
theorem ggL_law_L_assessed : GoodIn wsL_law wsL_assessed := goodIn_ca (goodIn_r _ [472, 123, 473, 474, 475, 2, 476, 128, 129, 130, 131, 132, 133, 23, 14, 574, 575, 576, 577, 578, 579, 580, 581, 582, 583, 584, 585, 586, 535, 536, 537, 538, 539, 540, 541, 542] (by decide +kernel) (by decide +kernel)) (goodIn_sub (fun _ h => List.mem_append_right _ h) (by decide +kernel))
set_option maxRecDepth 20000 in
theorem gL_law_L_assessed : GoodIn wsL_law (va_wsS RL 140 yL_assessed wsL_assessed) := goodIn_app (goodIn_of _ (by decide +kernel)) ggL_law_L_assessed
set_option maxRecDepth 20000 in
theorem ggL_law_X4_assessed : GoodIn wsL_law wsX4_assessed := goodIn_r _ [480, 106, 70, 153, 154, 155, 5, 156, 108, 109, 110, 111, 112, 113, 114, 115, 543, 544, 545, 546, 547, 548, 549, 550, 551, 552, 553, 554, 555, 556, 557, 558, 559, 560, 561, 562, 563, 564, 565, 566, 567, 568] (by decide +kernel) (by decide +kernel)
set_option maxRecDepth 20000 in
theorem gL_law_X4_assessed : GoodIn wsL_law (wsV RL 142 RX4 yX4_assessed wsX4_assessed) := goodIn_app (goodIn_of _ (by decide +kernel)) ggL_law_X4_assessed
set_option maxRecDepth 20000 in
theorem ggL_law_L_clientLots : GoodIn wsL_law wsL_clientLots := goodIn_ca (goodIn_r _ [483, 123, 484, 485, 486, 2, 487, 128, 129, 130, 131, 132, 133, 23, 14, 574, 575, 576, 577, 578, 579, 580, 581, 582, 583, 584, 585, 586, 535, 536, 537, 538, 539, 540, 541, 542] (by decide +kernel) (by decide +kernel)) (goodIn_sub (fun _ h => List.mem_append_right _ h) (by decide +kernel))
set_option maxRecDepth 20000 in
theorem gL_law_L_clientLots : GoodIn wsL_law (va_wsS RL 143 yL_clientLots wsL_clientLots) := goodIn_app (goodIn_of _ (by decide +kernel)) ggL_law_L_clientLots
set_option maxRecDepth 20000 in
theorem ggL_law_X4_clientLots : GoodIn wsL_law wsX4_clientLots := goodIn_r _ [491, 106, 153, 154, 155, 5, 156, 108, 109, 110, 111, 165, 166, 167, 168, 151, 72, 73, 112, 113, 114, 115, 543, 544, 545, 546, 547, 548, 549, 550, 551, 552, 553, 554, 555, 556, 557, 558, 559, 560, 561, 562, 563, 564, 565, 566, 567, 568] (by decide +kernel) (by decide +kernel)
set_option maxRecDepth 20000 in
theorem gL_law_X4_clientLots : GoodIn wsL_law (wsV RL 145 RX4 yX4_clientLots wsX4_clientLots) := goodIn_app (goodIn_of _ (by decide +kernel)) ggL_law_X4_clientLots
set_option maxRecDepth 20000 in
theorem ggL_law_L_won : GoodIn wsL_law wsL_won := goodIn_ca (goodIn_r _ [494, 123, 495, 496, 497, 2, 498, 128, 129, 130, 131, 132, 133, 23, 14, 574, 575, 576, 577, 578, 579, 580, 581, 582, 583, 584, 585, 586, 535, 536, 537, 538, 539, 540, 541, 542] (by decide +kernel) (by decide +kernel)) (goodIn_sub (fun _ h => List.mem_append_right _ h) (by decide +kernel))
set_option maxRecDepth 20000 in
theorem gL_law_L_won : GoodIn wsL_law (va_wsS RL 146 yL_won wsL_won) := goodIn_app (goodIn_of _ (by decide +kernel)) ggL_law_L_won
set_option maxRecDepth 20000 in
theorem ggL_law_X4_won : GoodIn wsL_law wsX4_won := goodIn_r _ [502, 106, 71, 153, 154, 155, 5, 156, 108, 109, 110, 111, 112, 113, 114, 115, 543, 544, 545, 546, 547, 548, 549, 550, 551, 552, 553, 554, 555, 556, 557, 558, 559, 560, 561, 562, 563, 564, 565, 566, 567, 568] (by decide +kernel) (by decide +kernel)
set_option maxRecDepth 20000 in
theorem gL_law_X4_won : GoodIn wsL_law (wsV RL 148 RX4 yX4_won wsX4_won) := goodIn_app (goodIn_of _ (by decide +kernel)) ggL_law_X4_won
set_option maxRecDepth 20000 in
theorem ggL_law_X3_capital : GoodIn wsL_law wsX3_capital := goodIn_r _ [506, 24, 535, 536, 537, 538, 539, 540, 541, 542] (by decide +kernel) (by decide +kernel)
set_option maxRecDepth 20000 in
theorem gL_law_X3_capital : GoodIn wsL_law (wsV RL 149 RX3 yX3_capital wsX3_capital) := goodIn_app (goodIn_of _ (by decide +kernel)) ggL_law_X3_capital
set_option maxRecDepth 20000 in
theorem ggL_law_X4_capital : GoodIn wsL_law wsX4_capital := goodIn_r _ [510, 106, 202, 543, 544, 545, 546, 547, 548, 549, 550, 551, 552, 553, 554, 555, 556, 557, 558, 559, 560, 561, 562, 563, 564, 565, 566, 567, 568] (by decide +kernel) (by decide +kernel)
set_option maxRecDepth 20000 in
theorem gL_law_X4_capital : GoodIn wsL_law (wsV RL 152 RX4 yX4_capital wsX4_capital) := goodIn_app (goodIn_of _ (by decide +kernel)) ggL_law_X4_capital
set_option maxRecDepth 20000 in
theorem ggL_law_X3_loss : GoodIn wsL_law wsX3_loss := goodIn_r _ [514, 25, 535, 536, 537, 538, 539, 540, 541, 542] (by decide +kernel) (by decide +kernel)
set_option maxRecDepth 20000 in
theorem gL_law_X3_loss : GoodIn wsL_law (wsV RL 153 RX3 yX3_loss wsX3_loss) := goodIn_app (goodIn_of _ (by decide +kernel)) ggL_law_X3_loss
set_option maxRecDepth 20000 in
theorem ggL_law_X4_loss : GoodIn wsL_law wsX4_loss := goodIn_r _ [518, 106, 381, 543, 544, 545, 546, 547, 548, 549, 550, 551, 552, 553, 554, 555, 556, 557, 558, 559, 560, 561, 562, 563, 564, 565, 566, 567, 568] (by decide +kernel) (by decide +kernel)
set_option maxRecDepth 20000 in
theorem gL_law_X4_loss : GoodIn wsL_law (wsV RL 156 RX4 yX4_loss wsX4_loss) := goodIn_app (goodIn_of _ (by decide +kernel)) ggL_law_X4_loss
set_option maxRecDepth 20000 in
theorem ggL_law_X3_uncovered : GoodIn wsL_law wsX3_uncovered := goodIn_r _ [522, 26, 535, 536, 537, 538, 539, 540, 541, 542] (by decide +kernel) (by decide +kernel)
set_option maxRecDepth 20000 in
theorem gL_law_X3_uncovered : GoodIn wsL_law (wsV RL 157 RX3 yX3_uncovered wsX3_uncovered) := goodIn_app (goodIn_of _ (by decide +kernel)) ggL_law_X3_uncovered
set_option maxRecDepth 20000 in
theorem ggL_law_X4_uncovered : GoodIn wsL_law wsX4_uncovered := goodIn_r _ [526, 106, 382, 543, 544, 545, 546, 547, 548, 549, 550, 551, 552, 553, 554, 555, 556, 557, 558, 559, 560, 561, 562, 563, 564, 565, 566, 567, 568] (by decide +kernel) (by decide +kernel)
set_option maxRecDepth 20000 in
theorem gL_law_X4_uncovered : GoodIn wsL_law (wsV RL 160 RX4 yX4_uncovered wsX4_uncovered) := goodIn_app (goodIn_of _ (by decide +kernel)) ggL_law_X4_uncovered
set_option maxRecDepth 20000 in
theorem ggL_law_X3_failing : GoodIn wsL_law wsX3_failing := goodIn_r _ [530, 27, 535, 536, 537, 538, 539, 540, 541, 542] (by decide +kernel) (by decide +kernel)
set_option maxRecDepth 20000 in
theorem gL_law_X3_failing : GoodIn wsL_law (wsV RL 161 RX3 yX3_failing wsX3_failing) := goodIn_app (goodIn_of _ (by decide +kernel)) ggL_law_X3_failing
set_option maxRecDepth 20000 in
theorem ggL_law_X4_failing : GoodIn wsL_law wsX4_failing := goodIn_r _ [534, 106, 75, 543, 544, 545, 546, 547, 548, 549, 550, 551, 552, 553, 554, 555, 556, 557, 558, 559, 560, 561, 562, 563, 564, 565, 566, 567, 568] (by decide +kernel) (by decide +kernel)
set_option maxRecDepth 20000 in
theorem gL_law_X4_failing : GoodIn wsL_law (wsV RL 164 RX4 yX4_failing wsX4_failing) := goodIn_app (goodIn_of _ (by decide +kernel)) ggL_law_X4_failing
theorem dL_law_0 : decode cL_law 0 = .ok (.new 8, 3) := by decide +kernel
theorem dL_law_3 : decode cL_law 3 = .ok (.dup, 1) := by decide +kernel
theorem dL_law_4 : decode cL_law 4 = .ok (.invokespecial 76, 3) := by decide +kernel
theorem dL_law_7 : decode cL_law 7 = .ok (.astore_n 1, 1) := by decide +kernel
theorem dL_law_8 : decode cL_law 8 = .ok (.new 77, 3) := by decide +kernel
theorem dL_law_11 : decode cL_law 11 = .ok (.dup, 1) := by decide +kernel
theorem dL_law_12 : decode cL_law 12 = .ok (.invokespecial 79, 3) := by decide +kernel
theorem dL_law_15 : decode cL_law 15 = .ok (.astore_n 2, 1) := by decide +kernel
theorem dL_law_16 : decode cL_law 16 = .ok (.iconst 1, 1) := by decide +kernel
theorem dL_law_17 : decode cL_law 17 = .ok (.newarray .long, 2) := by decide +kernel
theorem dL_law_19 : decode cL_law 19 = .ok (.astore_n 3, 1) := by decide +kernel
theorem dL_law_20 : decode cL_law 20 = .ok (.iconst 0, 1) := by decide +kernel
theorem dL_law_21 : decode cL_law 21 = .ok (.istore 4, 2) := by decide +kernel
theorem dL_law_23 : decode cL_law 23 = .ok (.iload 4, 2) := by decide +kernel
theorem dL_law_25 : decode cL_law 25 = .ok (.aload_n 0, 1) := by decide +kernel
theorem dL_law_26 : decode cL_law 26 = .ok (.arraylength, 1) := by decide +kernel
theorem dL_law_27 : decode cL_law 27 = .ok (.iconst 4, 1) := by decide +kernel
theorem dL_law_28 : decode cL_law 28 = .ok (.isub, 1) := by decide +kernel
theorem dL_law_29 : decode cL_law 29 = .ok (.if_icmp .gt 1233, 3) := by decide +kernel
theorem dL_law_32 : decode cL_law 32 = .ok (.aload_n 0, 1) := by decide +kernel
theorem dL_law_33 : decode cL_law 33 = .ok (.iload 4, 2) := by decide +kernel
theorem dL_law_35 : decode cL_law 35 = .ok (.iaload, 1) := by decide +kernel
theorem dL_law_36 : decode cL_law 36 = .ok (.bipush 31, 2) := by decide +kernel
theorem dL_law_38 : decode cL_law 38 = .ok (.iand, 1) := by decide +kernel
theorem dL_law_39 : decode cL_law 39 = .ok (.tableswitch 1217 0 22 #[105, 185, 253, 321, 389, 445, 481, 525, 593, 653, 697, 710, 766, 822, 878, 934, 997, 1053, 1109, 1165, 1178, 1191, 1204], 105) := by decide +kernel
theorem dL_law_144 : decode cL_law 144 = .ok (.aload_n 1, 1) := by decide +kernel
theorem dL_law_145 : decode cL_law 145 = .ok (.aload_n 0, 1) := by decide +kernel
theorem dL_law_146 : decode cL_law 146 = .ok (.iload 4, 2) := by decide +kernel
theorem dL_law_148 : decode cL_law 148 = .ok (.iconst 1, 1) := by decide +kernel
theorem dL_law_149 : decode cL_law 149 = .ok (.iadd, 1) := by decide +kernel
theorem dL_law_150 : decode cL_law 150 = .ok (.iaload, 1) := by decide +kernel
theorem dL_law_151 : decode cL_law 151 = .ok (.aload_n 0, 1) := by decide +kernel
theorem dL_law_152 : decode cL_law 152 = .ok (.iload 4, 2) := by decide +kernel
theorem dL_law_154 : decode cL_law 154 = .ok (.iconst 2, 1) := by decide +kernel
theorem dL_law_155 : decode cL_law 155 = .ok (.iadd, 1) := by decide +kernel
theorem dL_law_156 : decode cL_law 156 = .ok (.iaload, 1) := by decide +kernel
theorem dL_law_157 : decode cL_law 157 = .ok (.aload_n 0, 1) := by decide +kernel
theorem dL_law_158 : decode cL_law 158 = .ok (.iload 4, 2) := by decide +kernel
theorem dL_law_160 : decode cL_law 160 = .ok (.iconst 3, 1) := by decide +kernel
theorem dL_law_161 : decode cL_law 161 = .ok (.iadd, 1) := by decide +kernel
theorem dL_law_162 : decode cL_law 162 = .ok (.iaload, 1) := by decide +kernel
theorem dL_law_163 : decode cL_law 163 = .ok (.aload_n 3, 1) := by decide +kernel
theorem dL_law_164 : decode cL_law 164 = .ok (.invokestatic 80, 3) := by decide +kernel
theorem dL_law_167 : decode cL_law 167 = .ok (.istore 5, 2) := by decide +kernel
theorem dL_law_169 : decode cL_law 169 = .ok (.aload_n 2, 1) := by decide +kernel
theorem dL_law_170 : decode cL_law 170 = .ok (.aload_n 0, 1) := by decide +kernel
theorem dL_law_171 : decode cL_law 171 = .ok (.iload 4, 2) := by decide +kernel
theorem dL_law_173 : decode cL_law 173 = .ok (.iconst 1, 1) := by decide +kernel
theorem dL_law_174 : decode cL_law 174 = .ok (.iadd, 1) := by decide +kernel
theorem dL_law_175 : decode cL_law 175 = .ok (.iaload, 1) := by decide +kernel
theorem dL_law_176 : decode cL_law 176 = .ok (.aload_n 0, 1) := by decide +kernel
theorem dL_law_177 : decode cL_law 177 = .ok (.iload 4, 2) := by decide +kernel
theorem dL_law_179 : decode cL_law 179 = .ok (.iconst 2, 1) := by decide +kernel
theorem dL_law_180 : decode cL_law 180 = .ok (.iadd, 1) := by decide +kernel
theorem dL_law_181 : decode cL_law 181 = .ok (.iaload, 1) := by decide +kernel
theorem dL_law_182 : decode cL_law 182 = .ok (.aload_n 0, 1) := by decide +kernel
theorem dL_law_183 : decode cL_law 183 = .ok (.iload 4, 2) := by decide +kernel
theorem dL_law_185 : decode cL_law 185 = .ok (.iconst 3, 1) := by decide +kernel
theorem dL_law_186 : decode cL_law 186 = .ok (.iadd, 1) := by decide +kernel
theorem dL_law_187 : decode cL_law 187 = .ok (.iaload, 1) := by decide +kernel
theorem dL_law_188 : decode cL_law 188 = .ok (.invokevirtual 85, 3) := by decide +kernel
theorem dL_law_191 : decode cL_law 191 = .ok (.istore 6, 2) := by decide +kernel
theorem dL_law_193 : decode cL_law 193 = .ok (.aload_n 2, 1) := by decide +kernel
theorem dL_law_194 : decode cL_law 194 = .ok (.invokevirtual 86, 3) := by decide +kernel
theorem dL_law_197 : decode cL_law 197 = .ok (.iload 5, 2) := by decide +kernel
theorem dL_law_199 : decode cL_law 199 = .ok (.if_icmp .eq 5, 3) := by decide +kernel
theorem dL_law_202 : decode cL_law 202 = .ok (.iconst 0, 1) := by decide +kernel
theorem dL_law_203 : decode cL_law 203 = .ok (.ireturn, 1) := by decide +kernel
theorem dL_law_204 : decode cL_law 204 = .ok (.iload 5, 2) := by decide +kernel
theorem dL_law_206 : decode cL_law 206 = .ok (.ifCond .ne 15, 3) := by decide +kernel
theorem dL_law_209 : decode cL_law 209 = .ok (.aload_n 3, 1) := by decide +kernel
theorem dL_law_210 : decode cL_law 210 = .ok (.iconst 0, 1) := by decide +kernel
theorem dL_law_211 : decode cL_law 211 = .ok (.laload, 1) := by decide +kernel
theorem dL_law_212 : decode cL_law 212 = .ok (.iload 6, 2) := by decide +kernel
theorem dL_law_214 : decode cL_law 214 = .ok (.i2l, 1) := by decide +kernel
theorem dL_law_215 : decode cL_law 215 = .ok (.lcmp, 1) := by decide +kernel
theorem dL_law_216 : decode cL_law 216 = .ok (.ifCond .eq 5, 3) := by decide +kernel
theorem dL_law_219 : decode cL_law 219 = .ok (.iconst 0, 1) := by decide +kernel
theorem dL_law_220 : decode cL_law 220 = .ok (.ireturn, 1) := by decide +kernel
theorem dL_law_221 : decode cL_law 221 = .ok (.goto 1035, 3) := by decide +kernel
theorem dL_law_224 : decode cL_law 224 = .ok (.aload_n 1, 1) := by decide +kernel
theorem dL_law_225 : decode cL_law 225 = .ok (.aload_n 0, 1) := by decide +kernel
theorem dL_law_226 : decode cL_law 226 = .ok (.iload 4, 2) := by decide +kernel
theorem dL_law_228 : decode cL_law 228 = .ok (.iconst 1, 1) := by decide +kernel
theorem dL_law_229 : decode cL_law 229 = .ok (.iadd, 1) := by decide +kernel
theorem dL_law_230 : decode cL_law 230 = .ok (.iaload, 1) := by decide +kernel
theorem dL_law_231 : decode cL_law 231 = .ok (.aload_n 0, 1) := by decide +kernel
theorem dL_law_232 : decode cL_law 232 = .ok (.iload 4, 2) := by decide +kernel
theorem dL_law_234 : decode cL_law 234 = .ok (.iconst 2, 1) := by decide +kernel
theorem dL_law_235 : decode cL_law 235 = .ok (.iadd, 1) := by decide +kernel
theorem dL_law_236 : decode cL_law 236 = .ok (.iaload, 1) := by decide +kernel
theorem dL_law_237 : decode cL_law 237 = .ok (.aload_n 3, 1) := by decide +kernel
theorem dL_law_238 : decode cL_law 238 = .ok (.invokestatic 89, 3) := by decide +kernel
theorem dL_law_241 : decode cL_law 241 = .ok (.istore 5, 2) := by decide +kernel
theorem dL_law_243 : decode cL_law 243 = .ok (.aload_n 2, 1) := by decide +kernel
theorem dL_law_244 : decode cL_law 244 = .ok (.aload_n 0, 1) := by decide +kernel
theorem dL_law_245 : decode cL_law 245 = .ok (.iload 4, 2) := by decide +kernel
theorem dL_law_247 : decode cL_law 247 = .ok (.iconst 1, 1) := by decide +kernel
theorem dL_law_248 : decode cL_law 248 = .ok (.iadd, 1) := by decide +kernel
theorem dL_law_249 : decode cL_law 249 = .ok (.iaload, 1) := by decide +kernel
theorem dL_law_250 : decode cL_law 250 = .ok (.aload_n 0, 1) := by decide +kernel
theorem dL_law_251 : decode cL_law 251 = .ok (.iload 4, 2) := by decide +kernel
theorem dL_law_253 : decode cL_law 253 = .ok (.iconst 2, 1) := by decide +kernel
theorem dL_law_254 : decode cL_law 254 = .ok (.iadd, 1) := by decide +kernel
theorem dL_law_255 : decode cL_law 255 = .ok (.iaload, 1) := by decide +kernel
theorem dL_law_256 : decode cL_law 256 = .ok (.invokevirtual 92, 3) := by decide +kernel
theorem dL_law_259 : decode cL_law 259 = .ok (.istore 6, 2) := by decide +kernel
theorem dL_law_261 : decode cL_law 261 = .ok (.aload_n 2, 1) := by decide +kernel
theorem dL_law_262 : decode cL_law 262 = .ok (.invokevirtual 86, 3) := by decide +kernel
theorem dL_law_265 : decode cL_law 265 = .ok (.iload 5, 2) := by decide +kernel
theorem dL_law_267 : decode cL_law 267 = .ok (.if_icmp .eq 5, 3) := by decide +kernel
theorem dL_law_270 : decode cL_law 270 = .ok (.iconst 0, 1) := by decide +kernel
theorem dL_law_271 : decode cL_law 271 = .ok (.ireturn, 1) := by decide +kernel
theorem dL_law_272 : decode cL_law 272 = .ok (.iload 5, 2) := by decide +kernel
theorem dL_law_274 : decode cL_law 274 = .ok (.ifCond .ne 15, 3) := by decide +kernel
theorem dL_law_277 : decode cL_law 277 = .ok (.aload_n 3, 1) := by decide +kernel
theorem dL_law_278 : decode cL_law 278 = .ok (.iconst 0, 1) := by decide +kernel
theorem dL_law_279 : decode cL_law 279 = .ok (.laload, 1) := by decide +kernel
theorem dL_law_280 : decode cL_law 280 = .ok (.iload 6, 2) := by decide +kernel
theorem dL_law_282 : decode cL_law 282 = .ok (.i2l, 1) := by decide +kernel
theorem dL_law_283 : decode cL_law 283 = .ok (.lcmp, 1) := by decide +kernel
theorem dL_law_284 : decode cL_law 284 = .ok (.ifCond .eq 5, 3) := by decide +kernel
theorem dL_law_287 : decode cL_law 287 = .ok (.iconst 0, 1) := by decide +kernel
theorem dL_law_288 : decode cL_law 288 = .ok (.ireturn, 1) := by decide +kernel
theorem dL_law_289 : decode cL_law 289 = .ok (.goto 967, 3) := by decide +kernel
theorem dL_law_292 : decode cL_law 292 = .ok (.aload_n 1, 1) := by decide +kernel
theorem dL_law_293 : decode cL_law 293 = .ok (.aload_n 0, 1) := by decide +kernel
theorem dL_law_294 : decode cL_law 294 = .ok (.iload 4, 2) := by decide +kernel
theorem dL_law_296 : decode cL_law 296 = .ok (.iconst 1, 1) := by decide +kernel
theorem dL_law_297 : decode cL_law 297 = .ok (.iadd, 1) := by decide +kernel
theorem dL_law_298 : decode cL_law 298 = .ok (.iaload, 1) := by decide +kernel
theorem dL_law_299 : decode cL_law 299 = .ok (.aload_n 0, 1) := by decide +kernel
theorem dL_law_300 : decode cL_law 300 = .ok (.iload 4, 2) := by decide +kernel
theorem dL_law_302 : decode cL_law 302 = .ok (.iconst 2, 1) := by decide +kernel
theorem dL_law_303 : decode cL_law 303 = .ok (.iadd, 1) := by decide +kernel
theorem dL_law_304 : decode cL_law 304 = .ok (.iaload, 1) := by decide +kernel
theorem dL_law_305 : decode cL_law 305 = .ok (.aload_n 3, 1) := by decide +kernel
theorem dL_law_306 : decode cL_law 306 = .ok (.invokestatic 93, 3) := by decide +kernel
theorem dL_law_309 : decode cL_law 309 = .ok (.istore 5, 2) := by decide +kernel
theorem dL_law_311 : decode cL_law 311 = .ok (.aload_n 2, 1) := by decide +kernel
theorem dL_law_312 : decode cL_law 312 = .ok (.aload_n 0, 1) := by decide +kernel
theorem dL_law_313 : decode cL_law 313 = .ok (.iload 4, 2) := by decide +kernel
theorem dL_law_315 : decode cL_law 315 = .ok (.iconst 1, 1) := by decide +kernel
theorem dL_law_316 : decode cL_law 316 = .ok (.iadd, 1) := by decide +kernel
theorem dL_law_317 : decode cL_law 317 = .ok (.iaload, 1) := by decide +kernel
theorem dL_law_318 : decode cL_law 318 = .ok (.aload_n 0, 1) := by decide +kernel
theorem dL_law_319 : decode cL_law 319 = .ok (.iload 4, 2) := by decide +kernel
theorem dL_law_321 : decode cL_law 321 = .ok (.iconst 2, 1) := by decide +kernel
theorem dL_law_322 : decode cL_law 322 = .ok (.iadd, 1) := by decide +kernel
theorem dL_law_323 : decode cL_law 323 = .ok (.iaload, 1) := by decide +kernel
theorem dL_law_324 : decode cL_law 324 = .ok (.invokevirtual 95, 3) := by decide +kernel
theorem dL_law_327 : decode cL_law 327 = .ok (.istore 6, 2) := by decide +kernel
theorem dL_law_329 : decode cL_law 329 = .ok (.aload_n 2, 1) := by decide +kernel
theorem dL_law_330 : decode cL_law 330 = .ok (.invokevirtual 86, 3) := by decide +kernel
theorem dL_law_333 : decode cL_law 333 = .ok (.iload 5, 2) := by decide +kernel
theorem dL_law_335 : decode cL_law 335 = .ok (.if_icmp .eq 5, 3) := by decide +kernel
theorem dL_law_338 : decode cL_law 338 = .ok (.iconst 0, 1) := by decide +kernel
theorem dL_law_339 : decode cL_law 339 = .ok (.ireturn, 1) := by decide +kernel
theorem dL_law_340 : decode cL_law 340 = .ok (.iload 5, 2) := by decide +kernel
theorem dL_law_342 : decode cL_law 342 = .ok (.ifCond .ne 15, 3) := by decide +kernel
theorem dL_law_345 : decode cL_law 345 = .ok (.aload_n 3, 1) := by decide +kernel
theorem dL_law_346 : decode cL_law 346 = .ok (.iconst 0, 1) := by decide +kernel
theorem dL_law_347 : decode cL_law 347 = .ok (.laload, 1) := by decide +kernel
theorem dL_law_348 : decode cL_law 348 = .ok (.iload 6, 2) := by decide +kernel
theorem dL_law_350 : decode cL_law 350 = .ok (.i2l, 1) := by decide +kernel
theorem dL_law_351 : decode cL_law 351 = .ok (.lcmp, 1) := by decide +kernel
theorem dL_law_352 : decode cL_law 352 = .ok (.ifCond .eq 5, 3) := by decide +kernel
theorem dL_law_355 : decode cL_law 355 = .ok (.iconst 0, 1) := by decide +kernel
theorem dL_law_356 : decode cL_law 356 = .ok (.ireturn, 1) := by decide +kernel
theorem dL_law_357 : decode cL_law 357 = .ok (.goto 899, 3) := by decide +kernel
theorem dL_law_360 : decode cL_law 360 = .ok (.aload_n 1, 1) := by decide +kernel
theorem dL_law_361 : decode cL_law 361 = .ok (.aload_n 0, 1) := by decide +kernel
theorem dL_law_362 : decode cL_law 362 = .ok (.iload 4, 2) := by decide +kernel
theorem dL_law_364 : decode cL_law 364 = .ok (.iconst 1, 1) := by decide +kernel
theorem dL_law_365 : decode cL_law 365 = .ok (.iadd, 1) := by decide +kernel
theorem dL_law_366 : decode cL_law 366 = .ok (.iaload, 1) := by decide +kernel
theorem dL_law_367 : decode cL_law 367 = .ok (.aload_n 0, 1) := by decide +kernel
theorem dL_law_368 : decode cL_law 368 = .ok (.iload 4, 2) := by decide +kernel
theorem dL_law_370 : decode cL_law 370 = .ok (.iconst 2, 1) := by decide +kernel
theorem dL_law_371 : decode cL_law 371 = .ok (.iadd, 1) := by decide +kernel
theorem dL_law_372 : decode cL_law 372 = .ok (.iaload, 1) := by decide +kernel
theorem dL_law_373 : decode cL_law 373 = .ok (.aload_n 3, 1) := by decide +kernel
theorem dL_law_374 : decode cL_law 374 = .ok (.invokestatic 96, 3) := by decide +kernel
theorem dL_law_377 : decode cL_law 377 = .ok (.istore 5, 2) := by decide +kernel
theorem dL_law_379 : decode cL_law 379 = .ok (.aload_n 2, 1) := by decide +kernel
theorem dL_law_380 : decode cL_law 380 = .ok (.aload_n 0, 1) := by decide +kernel
theorem dL_law_381 : decode cL_law 381 = .ok (.iload 4, 2) := by decide +kernel
theorem dL_law_383 : decode cL_law 383 = .ok (.iconst 1, 1) := by decide +kernel
theorem dL_law_384 : decode cL_law 384 = .ok (.iadd, 1) := by decide +kernel
theorem dL_law_385 : decode cL_law 385 = .ok (.iaload, 1) := by decide +kernel
theorem dL_law_386 : decode cL_law 386 = .ok (.aload_n 0, 1) := by decide +kernel
theorem dL_law_387 : decode cL_law 387 = .ok (.iload 4, 2) := by decide +kernel
theorem dL_law_389 : decode cL_law 389 = .ok (.iconst 2, 1) := by decide +kernel
theorem dL_law_390 : decode cL_law 390 = .ok (.iadd, 1) := by decide +kernel
theorem dL_law_391 : decode cL_law 391 = .ok (.iaload, 1) := by decide +kernel
theorem dL_law_392 : decode cL_law 392 = .ok (.invokevirtual 98, 3) := by decide +kernel
theorem dL_law_395 : decode cL_law 395 = .ok (.istore 6, 2) := by decide +kernel
theorem dL_law_397 : decode cL_law 397 = .ok (.aload_n 2, 1) := by decide +kernel
theorem dL_law_398 : decode cL_law 398 = .ok (.invokevirtual 86, 3) := by decide +kernel
theorem dL_law_401 : decode cL_law 401 = .ok (.iload 5, 2) := by decide +kernel
theorem dL_law_403 : decode cL_law 403 = .ok (.if_icmp .eq 5, 3) := by decide +kernel
theorem dL_law_406 : decode cL_law 406 = .ok (.iconst 0, 1) := by decide +kernel
theorem dL_law_407 : decode cL_law 407 = .ok (.ireturn, 1) := by decide +kernel
theorem dL_law_408 : decode cL_law 408 = .ok (.iload 5, 2) := by decide +kernel
theorem dL_law_410 : decode cL_law 410 = .ok (.ifCond .ne 15, 3) := by decide +kernel
theorem dL_law_413 : decode cL_law 413 = .ok (.aload_n 3, 1) := by decide +kernel
theorem dL_law_414 : decode cL_law 414 = .ok (.iconst 0, 1) := by decide +kernel
theorem dL_law_415 : decode cL_law 415 = .ok (.laload, 1) := by decide +kernel
theorem dL_law_416 : decode cL_law 416 = .ok (.iload 6, 2) := by decide +kernel
theorem dL_law_418 : decode cL_law 418 = .ok (.i2l, 1) := by decide +kernel
theorem dL_law_419 : decode cL_law 419 = .ok (.lcmp, 1) := by decide +kernel
theorem dL_law_420 : decode cL_law 420 = .ok (.ifCond .eq 5, 3) := by decide +kernel
theorem dL_law_423 : decode cL_law 423 = .ok (.iconst 0, 1) := by decide +kernel
theorem dL_law_424 : decode cL_law 424 = .ok (.ireturn, 1) := by decide +kernel
theorem dL_law_425 : decode cL_law 425 = .ok (.goto 831, 3) := by decide +kernel
theorem dL_law_428 : decode cL_law 428 = .ok (.aload_n 1, 1) := by decide +kernel
theorem dL_law_429 : decode cL_law 429 = .ok (.aload_n 0, 1) := by decide +kernel
theorem dL_law_430 : decode cL_law 430 = .ok (.iload 4, 2) := by decide +kernel
theorem dL_law_432 : decode cL_law 432 = .ok (.iconst 1, 1) := by decide +kernel
theorem dL_law_433 : decode cL_law 433 = .ok (.iadd, 1) := by decide +kernel
theorem dL_law_434 : decode cL_law 434 = .ok (.iaload, 1) := by decide +kernel
theorem dL_law_435 : decode cL_law 435 = .ok (.aload_n 3, 1) := by decide +kernel
theorem dL_law_436 : decode cL_law 436 = .ok (.invokestatic 99, 3) := by decide +kernel
theorem dL_law_439 : decode cL_law 439 = .ok (.istore 5, 2) := by decide +kernel
theorem dL_law_441 : decode cL_law 441 = .ok (.aload_n 2, 1) := by decide +kernel
theorem dL_law_442 : decode cL_law 442 = .ok (.aload_n 0, 1) := by decide +kernel
theorem dL_law_443 : decode cL_law 443 = .ok (.iload 4, 2) := by decide +kernel
theorem dL_law_445 : decode cL_law 445 = .ok (.iconst 1, 1) := by decide +kernel
theorem dL_law_446 : decode cL_law 446 = .ok (.iadd, 1) := by decide +kernel
theorem dL_law_447 : decode cL_law 447 = .ok (.iaload, 1) := by decide +kernel
theorem dL_law_448 : decode cL_law 448 = .ok (.invokevirtual 102, 3) := by decide +kernel
theorem dL_law_451 : decode cL_law 451 = .ok (.istore 6, 2) := by decide +kernel
theorem dL_law_453 : decode cL_law 453 = .ok (.aload_n 2, 1) := by decide +kernel
theorem dL_law_454 : decode cL_law 454 = .ok (.invokevirtual 86, 3) := by decide +kernel
theorem dL_law_457 : decode cL_law 457 = .ok (.iload 5, 2) := by decide +kernel
theorem dL_law_459 : decode cL_law 459 = .ok (.if_icmp .eq 5, 3) := by decide +kernel
theorem dL_law_462 : decode cL_law 462 = .ok (.iconst 0, 1) := by decide +kernel
theorem dL_law_463 : decode cL_law 463 = .ok (.ireturn, 1) := by decide +kernel
theorem dL_law_464 : decode cL_law 464 = .ok (.iload 5, 2) := by decide +kernel
theorem dL_law_466 : decode cL_law 466 = .ok (.ifCond .ne 15, 3) := by decide +kernel
theorem dL_law_469 : decode cL_law 469 = .ok (.aload_n 3, 1) := by decide +kernel
theorem dL_law_470 : decode cL_law 470 = .ok (.iconst 0, 1) := by decide +kernel
theorem dL_law_471 : decode cL_law 471 = .ok (.laload, 1) := by decide +kernel
theorem dL_law_472 : decode cL_law 472 = .ok (.iload 6, 2) := by decide +kernel
theorem dL_law_474 : decode cL_law 474 = .ok (.i2l, 1) := by decide +kernel
theorem dL_law_475 : decode cL_law 475 = .ok (.lcmp, 1) := by decide +kernel
theorem dL_law_476 : decode cL_law 476 = .ok (.ifCond .eq 5, 3) := by decide +kernel
theorem dL_law_479 : decode cL_law 479 = .ok (.iconst 0, 1) := by decide +kernel
theorem dL_law_480 : decode cL_law 480 = .ok (.ireturn, 1) := by decide +kernel
theorem dL_law_481 : decode cL_law 481 = .ok (.goto 775, 3) := by decide +kernel
theorem dL_law_484 : decode cL_law 484 = .ok (.aload_n 1, 1) := by decide +kernel
theorem dL_law_485 : decode cL_law 485 = .ok (.aload_n 0, 1) := by decide +kernel
theorem dL_law_486 : decode cL_law 486 = .ok (.iload 4, 2) := by decide +kernel
theorem dL_law_488 : decode cL_law 488 = .ok (.iconst 1, 1) := by decide +kernel
theorem dL_law_489 : decode cL_law 489 = .ok (.iadd, 1) := by decide +kernel
theorem dL_law_490 : decode cL_law 490 = .ok (.iaload, 1) := by decide +kernel
theorem dL_law_491 : decode cL_law 491 = .ok (.invokestatic 103, 3) := by decide +kernel
theorem dL_law_494 : decode cL_law 494 = .ok (.istore 5, 2) := by decide +kernel
theorem dL_law_496 : decode cL_law 496 = .ok (.aload_n 2, 1) := by decide +kernel
theorem dL_law_497 : decode cL_law 497 = .ok (.aload_n 0, 1) := by decide +kernel
theorem dL_law_498 : decode cL_law 498 = .ok (.iload 4, 2) := by decide +kernel
theorem dL_law_500 : decode cL_law 500 = .ok (.iconst 1, 1) := by decide +kernel
theorem dL_law_501 : decode cL_law 501 = .ok (.iadd, 1) := by decide +kernel
theorem dL_law_502 : decode cL_law 502 = .ok (.iaload, 1) := by decide +kernel
theorem dL_law_503 : decode cL_law 503 = .ok (.invokevirtual 106, 3) := by decide +kernel
theorem dL_law_506 : decode cL_law 506 = .ok (.aload_n 2, 1) := by decide +kernel
theorem dL_law_507 : decode cL_law 507 = .ok (.invokevirtual 86, 3) := by decide +kernel
theorem dL_law_510 : decode cL_law 510 = .ok (.iload 5, 2) := by decide +kernel
theorem dL_law_512 : decode cL_law 512 = .ok (.if_icmp .eq 5, 3) := by decide +kernel
theorem dL_law_515 : decode cL_law 515 = .ok (.iconst 0, 1) := by decide +kernel
theorem dL_law_516 : decode cL_law 516 = .ok (.ireturn, 1) := by decide +kernel
theorem dL_law_517 : decode cL_law 517 = .ok (.goto 739, 3) := by decide +kernel
theorem dL_law_520 : decode cL_law 520 = .ok (.aload_n 1, 1) := by decide +kernel
theorem dL_law_521 : decode cL_law 521 = .ok (.aload_n 3, 1) := by decide +kernel
theorem dL_law_522 : decode cL_law 522 = .ok (.invokestatic 107, 3) := by decide +kernel
theorem dL_law_525 : decode cL_law 525 = .ok (.istore 5, 2) := by decide +kernel
theorem dL_law_527 : decode cL_law 527 = .ok (.aload_n 2, 1) := by decide +kernel
theorem dL_law_528 : decode cL_law 528 = .ok (.invokevirtual 110, 3) := by decide +kernel
theorem dL_law_531 : decode cL_law 531 = .ok (.istore 6, 2) := by decide +kernel
theorem dL_law_533 : decode cL_law 533 = .ok (.aload_n 2, 1) := by decide +kernel
theorem dL_law_534 : decode cL_law 534 = .ok (.invokevirtual 86, 3) := by decide +kernel
theorem dL_law_537 : decode cL_law 537 = .ok (.iload 5, 2) := by decide +kernel
theorem dL_law_539 : decode cL_law 539 = .ok (.if_icmp .eq 5, 3) := by decide +kernel
theorem dL_law_542 : decode cL_law 542 = .ok (.iconst 0, 1) := by decide +kernel
theorem dL_law_543 : decode cL_law 543 = .ok (.ireturn, 1) := by decide +kernel
theorem dL_law_544 : decode cL_law 544 = .ok (.iload 5, 2) := by decide +kernel
theorem dL_law_546 : decode cL_law 546 = .ok (.ifCond .ne 15, 3) := by decide +kernel
theorem dL_law_549 : decode cL_law 549 = .ok (.aload_n 3, 1) := by decide +kernel
theorem dL_law_550 : decode cL_law 550 = .ok (.iconst 0, 1) := by decide +kernel
theorem dL_law_551 : decode cL_law 551 = .ok (.laload, 1) := by decide +kernel
theorem dL_law_552 : decode cL_law 552 = .ok (.iload 6, 2) := by decide +kernel
theorem dL_law_554 : decode cL_law 554 = .ok (.i2l, 1) := by decide +kernel
theorem dL_law_555 : decode cL_law 555 = .ok (.lcmp, 1) := by decide +kernel
theorem dL_law_556 : decode cL_law 556 = .ok (.ifCond .eq 5, 3) := by decide +kernel
theorem dL_law_559 : decode cL_law 559 = .ok (.iconst 0, 1) := by decide +kernel
theorem dL_law_560 : decode cL_law 560 = .ok (.ireturn, 1) := by decide +kernel
theorem dL_law_561 : decode cL_law 561 = .ok (.goto 695, 3) := by decide +kernel
theorem dL_law_564 : decode cL_law 564 = .ok (.aload_n 1, 1) := by decide +kernel
theorem dL_law_565 : decode cL_law 565 = .ok (.aload_n 0, 1) := by decide +kernel
theorem dL_law_566 : decode cL_law 566 = .ok (.iload 4, 2) := by decide +kernel
theorem dL_law_568 : decode cL_law 568 = .ok (.iconst 1, 1) := by decide +kernel
theorem dL_law_569 : decode cL_law 569 = .ok (.iadd, 1) := by decide +kernel
theorem dL_law_570 : decode cL_law 570 = .ok (.iaload, 1) := by decide +kernel
theorem dL_law_571 : decode cL_law 571 = .ok (.aload_n 0, 1) := by decide +kernel
theorem dL_law_572 : decode cL_law 572 = .ok (.iload 4, 2) := by decide +kernel
theorem dL_law_574 : decode cL_law 574 = .ok (.iconst 2, 1) := by decide +kernel
theorem dL_law_575 : decode cL_law 575 = .ok (.iadd, 1) := by decide +kernel
theorem dL_law_576 : decode cL_law 576 = .ok (.iaload, 1) := by decide +kernel
theorem dL_law_577 : decode cL_law 577 = .ok (.aload_n 3, 1) := by decide +kernel
theorem dL_law_578 : decode cL_law 578 = .ok (.invokestatic 111, 3) := by decide +kernel
theorem dL_law_581 : decode cL_law 581 = .ok (.istore 5, 2) := by decide +kernel
theorem dL_law_583 : decode cL_law 583 = .ok (.aload_n 2, 1) := by decide +kernel
theorem dL_law_584 : decode cL_law 584 = .ok (.aload_n 0, 1) := by decide +kernel
theorem dL_law_585 : decode cL_law 585 = .ok (.iload 4, 2) := by decide +kernel
theorem dL_law_587 : decode cL_law 587 = .ok (.iconst 1, 1) := by decide +kernel
theorem dL_law_588 : decode cL_law 588 = .ok (.iadd, 1) := by decide +kernel
theorem dL_law_589 : decode cL_law 589 = .ok (.iaload, 1) := by decide +kernel
theorem dL_law_590 : decode cL_law 590 = .ok (.aload_n 0, 1) := by decide +kernel
theorem dL_law_591 : decode cL_law 591 = .ok (.iload 4, 2) := by decide +kernel
theorem dL_law_593 : decode cL_law 593 = .ok (.iconst 2, 1) := by decide +kernel
theorem dL_law_594 : decode cL_law 594 = .ok (.iadd, 1) := by decide +kernel
theorem dL_law_595 : decode cL_law 595 = .ok (.iaload, 1) := by decide +kernel
theorem dL_law_596 : decode cL_law 596 = .ok (.invokevirtual 113, 3) := by decide +kernel
theorem dL_law_599 : decode cL_law 599 = .ok (.istore 6, 2) := by decide +kernel
theorem dL_law_601 : decode cL_law 601 = .ok (.aload_n 2, 1) := by decide +kernel
theorem dL_law_602 : decode cL_law 602 = .ok (.invokevirtual 86, 3) := by decide +kernel
theorem dL_law_605 : decode cL_law 605 = .ok (.iload 5, 2) := by decide +kernel
theorem dL_law_607 : decode cL_law 607 = .ok (.if_icmp .eq 5, 3) := by decide +kernel
theorem dL_law_610 : decode cL_law 610 = .ok (.iconst 0, 1) := by decide +kernel
theorem dL_law_611 : decode cL_law 611 = .ok (.ireturn, 1) := by decide +kernel
theorem dL_law_612 : decode cL_law 612 = .ok (.iload 5, 2) := by decide +kernel
theorem dL_law_614 : decode cL_law 614 = .ok (.ifCond .ne 15, 3) := by decide +kernel
theorem dL_law_617 : decode cL_law 617 = .ok (.aload_n 3, 1) := by decide +kernel
theorem dL_law_618 : decode cL_law 618 = .ok (.iconst 0, 1) := by decide +kernel
theorem dL_law_619 : decode cL_law 619 = .ok (.laload, 1) := by decide +kernel
theorem dL_law_620 : decode cL_law 620 = .ok (.iload 6, 2) := by decide +kernel
theorem dL_law_622 : decode cL_law 622 = .ok (.i2l, 1) := by decide +kernel
theorem dL_law_623 : decode cL_law 623 = .ok (.lcmp, 1) := by decide +kernel
theorem dL_law_624 : decode cL_law 624 = .ok (.ifCond .eq 5, 3) := by decide +kernel
theorem dL_law_627 : decode cL_law 627 = .ok (.iconst 0, 1) := by decide +kernel
theorem dL_law_628 : decode cL_law 628 = .ok (.ireturn, 1) := by decide +kernel
theorem dL_law_629 : decode cL_law 629 = .ok (.goto 627, 3) := by decide +kernel
theorem dL_law_632 : decode cL_law 632 = .ok (.aload_n 1, 1) := by decide +kernel
theorem dL_law_633 : decode cL_law 633 = .ok (.aload_n 0, 1) := by decide +kernel
theorem dL_law_634 : decode cL_law 634 = .ok (.iload 4, 2) := by decide +kernel
theorem dL_law_636 : decode cL_law 636 = .ok (.iconst 1, 1) := by decide +kernel
theorem dL_law_637 : decode cL_law 637 = .ok (.iadd, 1) := by decide +kernel
theorem dL_law_638 : decode cL_law 638 = .ok (.iaload, 1) := by decide +kernel
theorem dL_law_639 : decode cL_law 639 = .ok (.aload_n 0, 1) := by decide +kernel
theorem dL_law_640 : decode cL_law 640 = .ok (.iload 4, 2) := by decide +kernel
theorem dL_law_642 : decode cL_law 642 = .ok (.iconst 2, 1) := by decide +kernel
theorem dL_law_643 : decode cL_law 643 = .ok (.iadd, 1) := by decide +kernel
theorem dL_law_644 : decode cL_law 644 = .ok (.iaload, 1) := by decide +kernel
theorem dL_law_645 : decode cL_law 645 = .ok (.aload_n 0, 1) := by decide +kernel
theorem dL_law_646 : decode cL_law 646 = .ok (.iload 4, 2) := by decide +kernel
theorem dL_law_648 : decode cL_law 648 = .ok (.iconst 3, 1) := by decide +kernel
theorem dL_law_649 : decode cL_law 649 = .ok (.iadd, 1) := by decide +kernel
theorem dL_law_650 : decode cL_law 650 = .ok (.iaload, 1) := by decide +kernel
theorem dL_law_651 : decode cL_law 651 = .ok (.invokestatic 114, 3) := by decide +kernel
theorem dL_law_654 : decode cL_law 654 = .ok (.istore 5, 2) := by decide +kernel
theorem dL_law_656 : decode cL_law 656 = .ok (.aload_n 2, 1) := by decide +kernel
theorem dL_law_657 : decode cL_law 657 = .ok (.aload_n 0, 1) := by decide +kernel
theorem dL_law_658 : decode cL_law 658 = .ok (.iload 4, 2) := by decide +kernel
theorem dL_law_660 : decode cL_law 660 = .ok (.iconst 1, 1) := by decide +kernel
theorem dL_law_661 : decode cL_law 661 = .ok (.iadd, 1) := by decide +kernel
theorem dL_law_662 : decode cL_law 662 = .ok (.iaload, 1) := by decide +kernel
theorem dL_law_663 : decode cL_law 663 = .ok (.aload_n 0, 1) := by decide +kernel
theorem dL_law_664 : decode cL_law 664 = .ok (.iload 4, 2) := by decide +kernel
theorem dL_law_666 : decode cL_law 666 = .ok (.iconst 2, 1) := by decide +kernel
theorem dL_law_667 : decode cL_law 667 = .ok (.iadd, 1) := by decide +kernel
theorem dL_law_668 : decode cL_law 668 = .ok (.iaload, 1) := by decide +kernel
theorem dL_law_669 : decode cL_law 669 = .ok (.aload_n 0, 1) := by decide +kernel
theorem dL_law_670 : decode cL_law 670 = .ok (.iload 4, 2) := by decide +kernel
theorem dL_law_672 : decode cL_law 672 = .ok (.iconst 3, 1) := by decide +kernel
theorem dL_law_673 : decode cL_law 673 = .ok (.iadd, 1) := by decide +kernel
theorem dL_law_674 : decode cL_law 674 = .ok (.iaload, 1) := by decide +kernel
theorem dL_law_675 : decode cL_law 675 = .ok (.invokevirtual 117, 3) := by decide +kernel
theorem dL_law_678 : decode cL_law 678 = .ok (.aload_n 2, 1) := by decide +kernel
theorem dL_law_679 : decode cL_law 679 = .ok (.invokevirtual 86, 3) := by decide +kernel
theorem dL_law_682 : decode cL_law 682 = .ok (.iload 5, 2) := by decide +kernel
theorem dL_law_684 : decode cL_law 684 = .ok (.if_icmp .eq 5, 3) := by decide +kernel
theorem dL_law_687 : decode cL_law 687 = .ok (.iconst 0, 1) := by decide +kernel
theorem dL_law_688 : decode cL_law 688 = .ok (.ireturn, 1) := by decide +kernel
theorem dL_law_689 : decode cL_law 689 = .ok (.goto 567, 3) := by decide +kernel
theorem dL_law_692 : decode cL_law 692 = .ok (.aload_n 1, 1) := by decide +kernel
theorem dL_law_693 : decode cL_law 693 = .ok (.aload_n 3, 1) := by decide +kernel
theorem dL_law_694 : decode cL_law 694 = .ok (.invokestatic 118, 3) := by decide +kernel
theorem dL_law_697 : decode cL_law 697 = .ok (.istore 5, 2) := by decide +kernel
theorem dL_law_699 : decode cL_law 699 = .ok (.aload_n 2, 1) := by decide +kernel
theorem dL_law_700 : decode cL_law 700 = .ok (.invokevirtual 120, 3) := by decide +kernel
theorem dL_law_703 : decode cL_law 703 = .ok (.istore 6, 2) := by decide +kernel
theorem dL_law_705 : decode cL_law 705 = .ok (.aload_n 2, 1) := by decide +kernel
theorem dL_law_706 : decode cL_law 706 = .ok (.invokevirtual 86, 3) := by decide +kernel
theorem dL_law_709 : decode cL_law 709 = .ok (.iload 5, 2) := by decide +kernel
theorem dL_law_711 : decode cL_law 711 = .ok (.if_icmp .eq 5, 3) := by decide +kernel
theorem dL_law_714 : decode cL_law 714 = .ok (.iconst 0, 1) := by decide +kernel
theorem dL_law_715 : decode cL_law 715 = .ok (.ireturn, 1) := by decide +kernel
theorem dL_law_716 : decode cL_law 716 = .ok (.iload 5, 2) := by decide +kernel
theorem dL_law_718 : decode cL_law 718 = .ok (.ifCond .ne 15, 3) := by decide +kernel
theorem dL_law_721 : decode cL_law 721 = .ok (.aload_n 3, 1) := by decide +kernel
theorem dL_law_722 : decode cL_law 722 = .ok (.iconst 0, 1) := by decide +kernel
theorem dL_law_723 : decode cL_law 723 = .ok (.laload, 1) := by decide +kernel
theorem dL_law_724 : decode cL_law 724 = .ok (.iload 6, 2) := by decide +kernel
theorem dL_law_726 : decode cL_law 726 = .ok (.i2l, 1) := by decide +kernel
theorem dL_law_727 : decode cL_law 727 = .ok (.lcmp, 1) := by decide +kernel
theorem dL_law_728 : decode cL_law 728 = .ok (.ifCond .eq 5, 3) := by decide +kernel
theorem dL_law_731 : decode cL_law 731 = .ok (.iconst 0, 1) := by decide +kernel
theorem dL_law_732 : decode cL_law 732 = .ok (.ireturn, 1) := by decide +kernel
theorem dL_law_733 : decode cL_law 733 = .ok (.goto 523, 3) := by decide +kernel
theorem dL_law_736 : decode cL_law 736 = .ok (.aload_n 1, 1) := by decide +kernel
theorem dL_law_737 : decode cL_law 737 = .ok (.invokevirtual 121, 3) := by decide +kernel
theorem dL_law_740 : decode cL_law 740 = .ok (.aload_n 2, 1) := by decide +kernel
theorem dL_law_741 : decode cL_law 741 = .ok (.invokevirtual 124, 3) := by decide +kernel
theorem dL_law_744 : decode cL_law 744 = .ok (.if_icmp .eq 512, 3) := by decide +kernel
theorem dL_law_747 : decode cL_law 747 = .ok (.iconst 0, 1) := by decide +kernel
theorem dL_law_748 : decode cL_law 748 = .ok (.ireturn, 1) := by decide +kernel
theorem dL_law_749 : decode cL_law 749 = .ok (.aload_n 1, 1) := by decide +kernel
theorem dL_law_750 : decode cL_law 750 = .ok (.aload_n 0, 1) := by decide +kernel
theorem dL_law_751 : decode cL_law 751 = .ok (.iload 4, 2) := by decide +kernel
theorem dL_law_753 : decode cL_law 753 = .ok (.iconst 1, 1) := by decide +kernel
theorem dL_law_754 : decode cL_law 754 = .ok (.iadd, 1) := by decide +kernel
theorem dL_law_755 : decode cL_law 755 = .ok (.iaload, 1) := by decide +kernel
theorem dL_law_756 : decode cL_law 756 = .ok (.aload_n 3, 1) := by decide +kernel
theorem dL_law_757 : decode cL_law 757 = .ok (.invokestatic 125, 3) := by decide +kernel
theorem dL_law_760 : decode cL_law 760 = .ok (.istore 5, 2) := by decide +kernel
theorem dL_law_762 : decode cL_law 762 = .ok (.aload_n 2, 1) := by decide +kernel
theorem dL_law_763 : decode cL_law 763 = .ok (.aload_n 0, 1) := by decide +kernel
theorem dL_law_764 : decode cL_law 764 = .ok (.iload 4, 2) := by decide +kernel
theorem dL_law_766 : decode cL_law 766 = .ok (.iconst 1, 1) := by decide +kernel
theorem dL_law_767 : decode cL_law 767 = .ok (.iadd, 1) := by decide +kernel
theorem dL_law_768 : decode cL_law 768 = .ok (.iaload, 1) := by decide +kernel
theorem dL_law_769 : decode cL_law 769 = .ok (.invokevirtual 127, 3) := by decide +kernel
theorem dL_law_772 : decode cL_law 772 = .ok (.istore 6, 2) := by decide +kernel
theorem dL_law_774 : decode cL_law 774 = .ok (.aload_n 2, 1) := by decide +kernel
theorem dL_law_775 : decode cL_law 775 = .ok (.invokevirtual 86, 3) := by decide +kernel
theorem dL_law_778 : decode cL_law 778 = .ok (.iload 5, 2) := by decide +kernel
theorem dL_law_780 : decode cL_law 780 = .ok (.if_icmp .eq 5, 3) := by decide +kernel
theorem dL_law_783 : decode cL_law 783 = .ok (.iconst 0, 1) := by decide +kernel
theorem dL_law_784 : decode cL_law 784 = .ok (.ireturn, 1) := by decide +kernel
theorem dL_law_785 : decode cL_law 785 = .ok (.iload 5, 2) := by decide +kernel
theorem dL_law_787 : decode cL_law 787 = .ok (.ifCond .ne 15, 3) := by decide +kernel
theorem dL_law_790 : decode cL_law 790 = .ok (.aload_n 3, 1) := by decide +kernel
theorem dL_law_791 : decode cL_law 791 = .ok (.iconst 0, 1) := by decide +kernel
theorem dL_law_792 : decode cL_law 792 = .ok (.laload, 1) := by decide +kernel
theorem dL_law_793 : decode cL_law 793 = .ok (.iload 6, 2) := by decide +kernel
theorem dL_law_795 : decode cL_law 795 = .ok (.i2l, 1) := by decide +kernel
theorem dL_law_796 : decode cL_law 796 = .ok (.lcmp, 1) := by decide +kernel
theorem dL_law_797 : decode cL_law 797 = .ok (.ifCond .eq 5, 3) := by decide +kernel
theorem dL_law_800 : decode cL_law 800 = .ok (.iconst 0, 1) := by decide +kernel
theorem dL_law_801 : decode cL_law 801 = .ok (.ireturn, 1) := by decide +kernel
theorem dL_law_802 : decode cL_law 802 = .ok (.goto 454, 3) := by decide +kernel
theorem dL_law_805 : decode cL_law 805 = .ok (.aload_n 1, 1) := by decide +kernel
theorem dL_law_806 : decode cL_law 806 = .ok (.aload_n 0, 1) := by decide +kernel
theorem dL_law_807 : decode cL_law 807 = .ok (.iload 4, 2) := by decide +kernel
theorem dL_law_809 : decode cL_law 809 = .ok (.iconst 1, 1) := by decide +kernel
theorem dL_law_810 : decode cL_law 810 = .ok (.iadd, 1) := by decide +kernel
theorem dL_law_811 : decode cL_law 811 = .ok (.iaload, 1) := by decide +kernel
theorem dL_law_812 : decode cL_law 812 = .ok (.aload_n 3, 1) := by decide +kernel
theorem dL_law_813 : decode cL_law 813 = .ok (.invokestatic 128, 3) := by decide +kernel
theorem dL_law_816 : decode cL_law 816 = .ok (.istore 5, 2) := by decide +kernel
theorem dL_law_818 : decode cL_law 818 = .ok (.aload_n 2, 1) := by decide +kernel
theorem dL_law_819 : decode cL_law 819 = .ok (.aload_n 0, 1) := by decide +kernel
theorem dL_law_820 : decode cL_law 820 = .ok (.iload 4, 2) := by decide +kernel
theorem dL_law_822 : decode cL_law 822 = .ok (.iconst 1, 1) := by decide +kernel
theorem dL_law_823 : decode cL_law 823 = .ok (.iadd, 1) := by decide +kernel
theorem dL_law_824 : decode cL_law 824 = .ok (.iaload, 1) := by decide +kernel
theorem dL_law_825 : decode cL_law 825 = .ok (.invokevirtual 130, 3) := by decide +kernel
theorem dL_law_828 : decode cL_law 828 = .ok (.istore 6, 2) := by decide +kernel
theorem dL_law_830 : decode cL_law 830 = .ok (.aload_n 2, 1) := by decide +kernel
theorem dL_law_831 : decode cL_law 831 = .ok (.invokevirtual 86, 3) := by decide +kernel
theorem dL_law_834 : decode cL_law 834 = .ok (.iload 5, 2) := by decide +kernel
theorem dL_law_836 : decode cL_law 836 = .ok (.if_icmp .eq 5, 3) := by decide +kernel
theorem dL_law_839 : decode cL_law 839 = .ok (.iconst 0, 1) := by decide +kernel
theorem dL_law_840 : decode cL_law 840 = .ok (.ireturn, 1) := by decide +kernel
theorem dL_law_841 : decode cL_law 841 = .ok (.iload 5, 2) := by decide +kernel
theorem dL_law_843 : decode cL_law 843 = .ok (.ifCond .ne 15, 3) := by decide +kernel
theorem dL_law_846 : decode cL_law 846 = .ok (.aload_n 3, 1) := by decide +kernel
theorem dL_law_847 : decode cL_law 847 = .ok (.iconst 0, 1) := by decide +kernel
theorem dL_law_848 : decode cL_law 848 = .ok (.laload, 1) := by decide +kernel
theorem dL_law_849 : decode cL_law 849 = .ok (.iload 6, 2) := by decide +kernel
theorem dL_law_851 : decode cL_law 851 = .ok (.i2l, 1) := by decide +kernel
theorem dL_law_852 : decode cL_law 852 = .ok (.lcmp, 1) := by decide +kernel
theorem dL_law_853 : decode cL_law 853 = .ok (.ifCond .eq 5, 3) := by decide +kernel
theorem dL_law_856 : decode cL_law 856 = .ok (.iconst 0, 1) := by decide +kernel
theorem dL_law_857 : decode cL_law 857 = .ok (.ireturn, 1) := by decide +kernel
theorem dL_law_858 : decode cL_law 858 = .ok (.goto 398, 3) := by decide +kernel
theorem dL_law_861 : decode cL_law 861 = .ok (.aload_n 1, 1) := by decide +kernel
theorem dL_law_862 : decode cL_law 862 = .ok (.aload_n 0, 1) := by decide +kernel
theorem dL_law_863 : decode cL_law 863 = .ok (.iload 4, 2) := by decide +kernel
theorem dL_law_865 : decode cL_law 865 = .ok (.iconst 1, 1) := by decide +kernel
theorem dL_law_866 : decode cL_law 866 = .ok (.iadd, 1) := by decide +kernel
theorem dL_law_867 : decode cL_law 867 = .ok (.iaload, 1) := by decide +kernel
theorem dL_law_868 : decode cL_law 868 = .ok (.aload_n 3, 1) := by decide +kernel
theorem dL_law_869 : decode cL_law 869 = .ok (.invokestatic 131, 3) := by decide +kernel
theorem dL_law_872 : decode cL_law 872 = .ok (.istore 5, 2) := by decide +kernel
theorem dL_law_874 : decode cL_law 874 = .ok (.aload_n 2, 1) := by decide +kernel
theorem dL_law_875 : decode cL_law 875 = .ok (.aload_n 0, 1) := by decide +kernel
theorem dL_law_876 : decode cL_law 876 = .ok (.iload 4, 2) := by decide +kernel
theorem dL_law_878 : decode cL_law 878 = .ok (.iconst 1, 1) := by decide +kernel
theorem dL_law_879 : decode cL_law 879 = .ok (.iadd, 1) := by decide +kernel
theorem dL_law_880 : decode cL_law 880 = .ok (.iaload, 1) := by decide +kernel
theorem dL_law_881 : decode cL_law 881 = .ok (.invokevirtual 133, 3) := by decide +kernel
theorem dL_law_884 : decode cL_law 884 = .ok (.istore 6, 2) := by decide +kernel
theorem dL_law_886 : decode cL_law 886 = .ok (.aload_n 2, 1) := by decide +kernel
theorem dL_law_887 : decode cL_law 887 = .ok (.invokevirtual 86, 3) := by decide +kernel
theorem dL_law_890 : decode cL_law 890 = .ok (.iload 5, 2) := by decide +kernel
theorem dL_law_892 : decode cL_law 892 = .ok (.if_icmp .eq 5, 3) := by decide +kernel
theorem dL_law_895 : decode cL_law 895 = .ok (.iconst 0, 1) := by decide +kernel
theorem dL_law_896 : decode cL_law 896 = .ok (.ireturn, 1) := by decide +kernel
theorem dL_law_897 : decode cL_law 897 = .ok (.iload 5, 2) := by decide +kernel
theorem dL_law_899 : decode cL_law 899 = .ok (.ifCond .ne 15, 3) := by decide +kernel
theorem dL_law_902 : decode cL_law 902 = .ok (.aload_n 3, 1) := by decide +kernel
theorem dL_law_903 : decode cL_law 903 = .ok (.iconst 0, 1) := by decide +kernel
theorem dL_law_904 : decode cL_law 904 = .ok (.laload, 1) := by decide +kernel
theorem dL_law_905 : decode cL_law 905 = .ok (.iload 6, 2) := by decide +kernel
theorem dL_law_907 : decode cL_law 907 = .ok (.i2l, 1) := by decide +kernel
theorem dL_law_908 : decode cL_law 908 = .ok (.lcmp, 1) := by decide +kernel
theorem dL_law_909 : decode cL_law 909 = .ok (.ifCond .eq 5, 3) := by decide +kernel
theorem dL_law_912 : decode cL_law 912 = .ok (.iconst 0, 1) := by decide +kernel
theorem dL_law_913 : decode cL_law 913 = .ok (.ireturn, 1) := by decide +kernel
theorem dL_law_914 : decode cL_law 914 = .ok (.goto 342, 3) := by decide +kernel
theorem dL_law_917 : decode cL_law 917 = .ok (.aload_n 1, 1) := by decide +kernel
theorem dL_law_918 : decode cL_law 918 = .ok (.aload_n 0, 1) := by decide +kernel
theorem dL_law_919 : decode cL_law 919 = .ok (.iload 4, 2) := by decide +kernel
theorem dL_law_921 : decode cL_law 921 = .ok (.iconst 1, 1) := by decide +kernel
theorem dL_law_922 : decode cL_law 922 = .ok (.iadd, 1) := by decide +kernel
theorem dL_law_923 : decode cL_law 923 = .ok (.iaload, 1) := by decide +kernel
theorem dL_law_924 : decode cL_law 924 = .ok (.aload_n 3, 1) := by decide +kernel
theorem dL_law_925 : decode cL_law 925 = .ok (.invokestatic 134, 3) := by decide +kernel
theorem dL_law_928 : decode cL_law 928 = .ok (.istore 5, 2) := by decide +kernel
theorem dL_law_930 : decode cL_law 930 = .ok (.aload_n 2, 1) := by decide +kernel
theorem dL_law_931 : decode cL_law 931 = .ok (.aload_n 0, 1) := by decide +kernel
theorem dL_law_932 : decode cL_law 932 = .ok (.iload 4, 2) := by decide +kernel
theorem dL_law_934 : decode cL_law 934 = .ok (.iconst 1, 1) := by decide +kernel
theorem dL_law_935 : decode cL_law 935 = .ok (.iadd, 1) := by decide +kernel
theorem dL_law_936 : decode cL_law 936 = .ok (.iaload, 1) := by decide +kernel
theorem dL_law_937 : decode cL_law 937 = .ok (.invokevirtual 136, 3) := by decide +kernel
theorem dL_law_940 : decode cL_law 940 = .ok (.istore 6, 2) := by decide +kernel
theorem dL_law_942 : decode cL_law 942 = .ok (.aload_n 2, 1) := by decide +kernel
theorem dL_law_943 : decode cL_law 943 = .ok (.invokevirtual 86, 3) := by decide +kernel
theorem dL_law_946 : decode cL_law 946 = .ok (.iload 5, 2) := by decide +kernel
theorem dL_law_948 : decode cL_law 948 = .ok (.if_icmp .eq 5, 3) := by decide +kernel
theorem dL_law_951 : decode cL_law 951 = .ok (.iconst 0, 1) := by decide +kernel
theorem dL_law_952 : decode cL_law 952 = .ok (.ireturn, 1) := by decide +kernel
theorem dL_law_953 : decode cL_law 953 = .ok (.iload 5, 2) := by decide +kernel
theorem dL_law_955 : decode cL_law 955 = .ok (.ifCond .ne 15, 3) := by decide +kernel
theorem dL_law_958 : decode cL_law 958 = .ok (.aload_n 3, 1) := by decide +kernel
theorem dL_law_959 : decode cL_law 959 = .ok (.iconst 0, 1) := by decide +kernel
theorem dL_law_960 : decode cL_law 960 = .ok (.laload, 1) := by decide +kernel
theorem dL_law_961 : decode cL_law 961 = .ok (.iload 6, 2) := by decide +kernel
theorem dL_law_963 : decode cL_law 963 = .ok (.i2l, 1) := by decide +kernel
theorem dL_law_964 : decode cL_law 964 = .ok (.lcmp, 1) := by decide +kernel
theorem dL_law_965 : decode cL_law 965 = .ok (.ifCond .eq 5, 3) := by decide +kernel
theorem dL_law_968 : decode cL_law 968 = .ok (.iconst 0, 1) := by decide +kernel
theorem dL_law_969 : decode cL_law 969 = .ok (.ireturn, 1) := by decide +kernel
theorem dL_law_970 : decode cL_law 970 = .ok (.goto 286, 3) := by decide +kernel
theorem dL_law_973 : decode cL_law 973 = .ok (.aload_n 1, 1) := by decide +kernel
theorem dL_law_974 : decode cL_law 974 = .ok (.aload_n 0, 1) := by decide +kernel
theorem dL_law_975 : decode cL_law 975 = .ok (.iload 4, 2) := by decide +kernel
theorem dL_law_977 : decode cL_law 977 = .ok (.iconst 1, 1) := by decide +kernel
theorem dL_law_978 : decode cL_law 978 = .ok (.iadd, 1) := by decide +kernel
theorem dL_law_979 : decode cL_law 979 = .ok (.iaload, 1) := by decide +kernel
theorem dL_law_980 : decode cL_law 980 = .ok (.aload_n 3, 1) := by decide +kernel
theorem dL_law_981 : decode cL_law 981 = .ok (.invokestatic 137, 3) := by decide +kernel
theorem dL_law_984 : decode cL_law 984 = .ok (.istore 5, 2) := by decide +kernel
theorem dL_law_986 : decode cL_law 986 = .ok (.aload_n 2, 1) := by decide +kernel
theorem dL_law_987 : decode cL_law 987 = .ok (.aload_n 0, 1) := by decide +kernel
theorem dL_law_988 : decode cL_law 988 = .ok (.iload 4, 2) := by decide +kernel
theorem dL_law_990 : decode cL_law 990 = .ok (.iconst 1, 1) := by decide +kernel
theorem dL_law_991 : decode cL_law 991 = .ok (.iadd, 1) := by decide +kernel
theorem dL_law_992 : decode cL_law 992 = .ok (.iaload, 1) := by decide +kernel
theorem dL_law_993 : decode cL_law 993 = .ok (.invokevirtual 139, 3) := by decide +kernel
theorem dL_law_996 : decode cL_law 996 = .ok (.istore 6, 2) := by decide +kernel
theorem dL_law_998 : decode cL_law 998 = .ok (.aload_n 2, 1) := by decide +kernel
theorem dL_law_999 : decode cL_law 999 = .ok (.invokevirtual 86, 3) := by decide +kernel
theorem dL_law_1002 : decode cL_law 1002 = .ok (.iload 5, 2) := by decide +kernel
theorem dL_law_1004 : decode cL_law 1004 = .ok (.if_icmp .eq 5, 3) := by decide +kernel
theorem dL_law_1007 : decode cL_law 1007 = .ok (.iconst 0, 1) := by decide +kernel
theorem dL_law_1008 : decode cL_law 1008 = .ok (.ireturn, 1) := by decide +kernel
theorem dL_law_1009 : decode cL_law 1009 = .ok (.iload 5, 2) := by decide +kernel
theorem dL_law_1011 : decode cL_law 1011 = .ok (.ifCond .ne 22, 3) := by decide +kernel
theorem dL_law_1014 : decode cL_law 1014 = .ok (.aload_n 3, 1) := by decide +kernel
theorem dL_law_1015 : decode cL_law 1015 = .ok (.iconst 0, 1) := by decide +kernel
theorem dL_law_1016 : decode cL_law 1016 = .ok (.laload, 1) := by decide +kernel
theorem dL_law_1017 : decode cL_law 1017 = .ok (.iload 6, 2) := by decide +kernel
theorem dL_law_1019 : decode cL_law 1019 = .ok (.ifCond .eq 7, 3) := by decide +kernel
theorem dL_law_1022 : decode cL_law 1022 = .ok (.lconst 1, 1) := by decide +kernel
theorem dL_law_1023 : decode cL_law 1023 = .ok (.goto 4, 3) := by decide +kernel
theorem dL_law_1026 : decode cL_law 1026 = .ok (.lconst 0, 1) := by decide +kernel
theorem dL_law_1027 : decode cL_law 1027 = .ok (.lcmp, 1) := by decide +kernel
theorem dL_law_1028 : decode cL_law 1028 = .ok (.ifCond .eq 5, 3) := by decide +kernel
theorem dL_law_1031 : decode cL_law 1031 = .ok (.iconst 0, 1) := by decide +kernel
theorem dL_law_1032 : decode cL_law 1032 = .ok (.ireturn, 1) := by decide +kernel
theorem dL_law_1033 : decode cL_law 1033 = .ok (.goto 223, 3) := by decide +kernel
theorem dL_law_1036 : decode cL_law 1036 = .ok (.aload_n 1, 1) := by decide +kernel
theorem dL_law_1037 : decode cL_law 1037 = .ok (.aload_n 0, 1) := by decide +kernel
theorem dL_law_1038 : decode cL_law 1038 = .ok (.iload 4, 2) := by decide +kernel
theorem dL_law_1040 : decode cL_law 1040 = .ok (.iconst 1, 1) := by decide +kernel
theorem dL_law_1041 : decode cL_law 1041 = .ok (.iadd, 1) := by decide +kernel
theorem dL_law_1042 : decode cL_law 1042 = .ok (.iaload, 1) := by decide +kernel
theorem dL_law_1043 : decode cL_law 1043 = .ok (.aload_n 3, 1) := by decide +kernel
theorem dL_law_1044 : decode cL_law 1044 = .ok (.invokestatic 140, 3) := by decide +kernel
theorem dL_law_1047 : decode cL_law 1047 = .ok (.istore 5, 2) := by decide +kernel
theorem dL_law_1049 : decode cL_law 1049 = .ok (.aload_n 2, 1) := by decide +kernel
theorem dL_law_1050 : decode cL_law 1050 = .ok (.aload_n 0, 1) := by decide +kernel
theorem dL_law_1051 : decode cL_law 1051 = .ok (.iload 4, 2) := by decide +kernel
theorem dL_law_1053 : decode cL_law 1053 = .ok (.iconst 1, 1) := by decide +kernel
theorem dL_law_1054 : decode cL_law 1054 = .ok (.iadd, 1) := by decide +kernel
theorem dL_law_1055 : decode cL_law 1055 = .ok (.iaload, 1) := by decide +kernel
theorem dL_law_1056 : decode cL_law 1056 = .ok (.invokevirtual 142, 3) := by decide +kernel
theorem dL_law_1059 : decode cL_law 1059 = .ok (.istore 6, 2) := by decide +kernel
theorem dL_law_1061 : decode cL_law 1061 = .ok (.aload_n 2, 1) := by decide +kernel
theorem dL_law_1062 : decode cL_law 1062 = .ok (.invokevirtual 86, 3) := by decide +kernel
theorem dL_law_1065 : decode cL_law 1065 = .ok (.iload 5, 2) := by decide +kernel
theorem dL_law_1067 : decode cL_law 1067 = .ok (.if_icmp .eq 5, 3) := by decide +kernel
theorem dL_law_1070 : decode cL_law 1070 = .ok (.iconst 0, 1) := by decide +kernel
theorem dL_law_1071 : decode cL_law 1071 = .ok (.ireturn, 1) := by decide +kernel
theorem dL_law_1072 : decode cL_law 1072 = .ok (.iload 5, 2) := by decide +kernel
theorem dL_law_1074 : decode cL_law 1074 = .ok (.ifCond .ne 15, 3) := by decide +kernel
theorem dL_law_1077 : decode cL_law 1077 = .ok (.aload_n 3, 1) := by decide +kernel
theorem dL_law_1078 : decode cL_law 1078 = .ok (.iconst 0, 1) := by decide +kernel
theorem dL_law_1079 : decode cL_law 1079 = .ok (.laload, 1) := by decide +kernel
theorem dL_law_1080 : decode cL_law 1080 = .ok (.iload 6, 2) := by decide +kernel
theorem dL_law_1082 : decode cL_law 1082 = .ok (.i2l, 1) := by decide +kernel
theorem dL_law_1083 : decode cL_law 1083 = .ok (.lcmp, 1) := by decide +kernel
theorem dL_law_1084 : decode cL_law 1084 = .ok (.ifCond .eq 5, 3) := by decide +kernel
theorem dL_law_1087 : decode cL_law 1087 = .ok (.iconst 0, 1) := by decide +kernel
theorem dL_law_1088 : decode cL_law 1088 = .ok (.ireturn, 1) := by decide +kernel
theorem dL_law_1089 : decode cL_law 1089 = .ok (.goto 167, 3) := by decide +kernel
theorem dL_law_1092 : decode cL_law 1092 = .ok (.aload_n 1, 1) := by decide +kernel
theorem dL_law_1093 : decode cL_law 1093 = .ok (.aload_n 0, 1) := by decide +kernel
theorem dL_law_1094 : decode cL_law 1094 = .ok (.iload 4, 2) := by decide +kernel
theorem dL_law_1096 : decode cL_law 1096 = .ok (.iconst 1, 1) := by decide +kernel
theorem dL_law_1097 : decode cL_law 1097 = .ok (.iadd, 1) := by decide +kernel
theorem dL_law_1098 : decode cL_law 1098 = .ok (.iaload, 1) := by decide +kernel
theorem dL_law_1099 : decode cL_law 1099 = .ok (.aload_n 3, 1) := by decide +kernel
theorem dL_law_1100 : decode cL_law 1100 = .ok (.invokestatic 143, 3) := by decide +kernel
theorem dL_law_1103 : decode cL_law 1103 = .ok (.istore 5, 2) := by decide +kernel
theorem dL_law_1105 : decode cL_law 1105 = .ok (.aload_n 2, 1) := by decide +kernel
theorem dL_law_1106 : decode cL_law 1106 = .ok (.aload_n 0, 1) := by decide +kernel
theorem dL_law_1107 : decode cL_law 1107 = .ok (.iload 4, 2) := by decide +kernel
theorem dL_law_1109 : decode cL_law 1109 = .ok (.iconst 1, 1) := by decide +kernel
theorem dL_law_1110 : decode cL_law 1110 = .ok (.iadd, 1) := by decide +kernel
theorem dL_law_1111 : decode cL_law 1111 = .ok (.iaload, 1) := by decide +kernel
theorem dL_law_1112 : decode cL_law 1112 = .ok (.invokevirtual 145, 3) := by decide +kernel
theorem dL_law_1115 : decode cL_law 1115 = .ok (.istore 6, 2) := by decide +kernel
theorem dL_law_1117 : decode cL_law 1117 = .ok (.aload_n 2, 1) := by decide +kernel
theorem dL_law_1118 : decode cL_law 1118 = .ok (.invokevirtual 86, 3) := by decide +kernel
theorem dL_law_1121 : decode cL_law 1121 = .ok (.iload 5, 2) := by decide +kernel
theorem dL_law_1123 : decode cL_law 1123 = .ok (.if_icmp .eq 5, 3) := by decide +kernel
theorem dL_law_1126 : decode cL_law 1126 = .ok (.iconst 0, 1) := by decide +kernel
theorem dL_law_1127 : decode cL_law 1127 = .ok (.ireturn, 1) := by decide +kernel
theorem dL_law_1128 : decode cL_law 1128 = .ok (.iload 5, 2) := by decide +kernel
theorem dL_law_1130 : decode cL_law 1130 = .ok (.ifCond .ne 15, 3) := by decide +kernel
theorem dL_law_1133 : decode cL_law 1133 = .ok (.aload_n 3, 1) := by decide +kernel
theorem dL_law_1134 : decode cL_law 1134 = .ok (.iconst 0, 1) := by decide +kernel
theorem dL_law_1135 : decode cL_law 1135 = .ok (.laload, 1) := by decide +kernel
theorem dL_law_1136 : decode cL_law 1136 = .ok (.iload 6, 2) := by decide +kernel
theorem dL_law_1138 : decode cL_law 1138 = .ok (.i2l, 1) := by decide +kernel
theorem dL_law_1139 : decode cL_law 1139 = .ok (.lcmp, 1) := by decide +kernel
theorem dL_law_1140 : decode cL_law 1140 = .ok (.ifCond .eq 5, 3) := by decide +kernel
theorem dL_law_1143 : decode cL_law 1143 = .ok (.iconst 0, 1) := by decide +kernel
theorem dL_law_1144 : decode cL_law 1144 = .ok (.ireturn, 1) := by decide +kernel
theorem dL_law_1145 : decode cL_law 1145 = .ok (.goto 111, 3) := by decide +kernel
theorem dL_law_1148 : decode cL_law 1148 = .ok (.aload_n 1, 1) := by decide +kernel
theorem dL_law_1149 : decode cL_law 1149 = .ok (.aload_n 0, 1) := by decide +kernel
theorem dL_law_1150 : decode cL_law 1150 = .ok (.iload 4, 2) := by decide +kernel
theorem dL_law_1152 : decode cL_law 1152 = .ok (.iconst 1, 1) := by decide +kernel
theorem dL_law_1153 : decode cL_law 1153 = .ok (.iadd, 1) := by decide +kernel
theorem dL_law_1154 : decode cL_law 1154 = .ok (.iaload, 1) := by decide +kernel
theorem dL_law_1155 : decode cL_law 1155 = .ok (.aload_n 3, 1) := by decide +kernel
theorem dL_law_1156 : decode cL_law 1156 = .ok (.invokestatic 146, 3) := by decide +kernel
theorem dL_law_1159 : decode cL_law 1159 = .ok (.istore 5, 2) := by decide +kernel
theorem dL_law_1161 : decode cL_law 1161 = .ok (.aload_n 2, 1) := by decide +kernel
theorem dL_law_1162 : decode cL_law 1162 = .ok (.aload_n 0, 1) := by decide +kernel
theorem dL_law_1163 : decode cL_law 1163 = .ok (.iload 4, 2) := by decide +kernel
theorem dL_law_1165 : decode cL_law 1165 = .ok (.iconst 1, 1) := by decide +kernel
theorem dL_law_1166 : decode cL_law 1166 = .ok (.iadd, 1) := by decide +kernel
theorem dL_law_1167 : decode cL_law 1167 = .ok (.iaload, 1) := by decide +kernel
theorem dL_law_1168 : decode cL_law 1168 = .ok (.invokevirtual 148, 3) := by decide +kernel
theorem dL_law_1171 : decode cL_law 1171 = .ok (.istore 6, 2) := by decide +kernel
theorem dL_law_1173 : decode cL_law 1173 = .ok (.aload_n 2, 1) := by decide +kernel
theorem dL_law_1174 : decode cL_law 1174 = .ok (.invokevirtual 86, 3) := by decide +kernel
theorem dL_law_1177 : decode cL_law 1177 = .ok (.iload 5, 2) := by decide +kernel
theorem dL_law_1179 : decode cL_law 1179 = .ok (.if_icmp .eq 5, 3) := by decide +kernel
theorem dL_law_1182 : decode cL_law 1182 = .ok (.iconst 0, 1) := by decide +kernel
theorem dL_law_1183 : decode cL_law 1183 = .ok (.ireturn, 1) := by decide +kernel
theorem dL_law_1184 : decode cL_law 1184 = .ok (.iload 5, 2) := by decide +kernel
theorem dL_law_1186 : decode cL_law 1186 = .ok (.ifCond .ne 15, 3) := by decide +kernel
theorem dL_law_1189 : decode cL_law 1189 = .ok (.aload_n 3, 1) := by decide +kernel
theorem dL_law_1190 : decode cL_law 1190 = .ok (.iconst 0, 1) := by decide +kernel
theorem dL_law_1191 : decode cL_law 1191 = .ok (.laload, 1) := by decide +kernel
theorem dL_law_1192 : decode cL_law 1192 = .ok (.iload 6, 2) := by decide +kernel
theorem dL_law_1194 : decode cL_law 1194 = .ok (.i2l, 1) := by decide +kernel
theorem dL_law_1195 : decode cL_law 1195 = .ok (.lcmp, 1) := by decide +kernel
theorem dL_law_1196 : decode cL_law 1196 = .ok (.ifCond .eq 5, 3) := by decide +kernel
theorem dL_law_1199 : decode cL_law 1199 = .ok (.iconst 0, 1) := by decide +kernel
theorem dL_law_1200 : decode cL_law 1200 = .ok (.ireturn, 1) := by decide +kernel
theorem dL_law_1201 : decode cL_law 1201 = .ok (.goto 55, 3) := by decide +kernel
theorem dL_law_1204 : decode cL_law 1204 = .ok (.aload_n 1, 1) := by decide +kernel
theorem dL_law_1205 : decode cL_law 1205 = .ok (.invokevirtual 149, 3) := by decide +kernel
theorem dL_law_1208 : decode cL_law 1208 = .ok (.aload_n 2, 1) := by decide +kernel
theorem dL_law_1209 : decode cL_law 1209 = .ok (.invokevirtual 152, 3) := by decide +kernel
theorem dL_law_1212 : decode cL_law 1212 = .ok (.if_icmp .eq 44, 3) := by decide +kernel
theorem dL_law_1215 : decode cL_law 1215 = .ok (.iconst 0, 1) := by decide +kernel
theorem dL_law_1216 : decode cL_law 1216 = .ok (.ireturn, 1) := by decide +kernel
theorem dL_law_1217 : decode cL_law 1217 = .ok (.aload_n 1, 1) := by decide +kernel
theorem dL_law_1218 : decode cL_law 1218 = .ok (.invokevirtual 153, 3) := by decide +kernel
theorem dL_law_1221 : decode cL_law 1221 = .ok (.aload_n 2, 1) := by decide +kernel
theorem dL_law_1222 : decode cL_law 1222 = .ok (.invokevirtual 156, 3) := by decide +kernel
theorem dL_law_1225 : decode cL_law 1225 = .ok (.if_icmp .eq 31, 3) := by decide +kernel
theorem dL_law_1228 : decode cL_law 1228 = .ok (.iconst 0, 1) := by decide +kernel
theorem dL_law_1229 : decode cL_law 1229 = .ok (.ireturn, 1) := by decide +kernel
theorem dL_law_1230 : decode cL_law 1230 = .ok (.aload_n 1, 1) := by decide +kernel
theorem dL_law_1231 : decode cL_law 1231 = .ok (.invokevirtual 157, 3) := by decide +kernel
theorem dL_law_1234 : decode cL_law 1234 = .ok (.aload_n 2, 1) := by decide +kernel
theorem dL_law_1235 : decode cL_law 1235 = .ok (.invokevirtual 160, 3) := by decide +kernel
theorem dL_law_1238 : decode cL_law 1238 = .ok (.if_icmp .eq 18, 3) := by decide +kernel
theorem dL_law_1241 : decode cL_law 1241 = .ok (.iconst 0, 1) := by decide +kernel
theorem dL_law_1242 : decode cL_law 1242 = .ok (.ireturn, 1) := by decide +kernel
theorem dL_law_1243 : decode cL_law 1243 = .ok (.aload_n 1, 1) := by decide +kernel
theorem dL_law_1244 : decode cL_law 1244 = .ok (.invokevirtual 161, 3) := by decide +kernel
theorem dL_law_1247 : decode cL_law 1247 = .ok (.aload_n 2, 1) := by decide +kernel
theorem dL_law_1248 : decode cL_law 1248 = .ok (.invokevirtual 164, 3) := by decide +kernel
theorem dL_law_1251 : decode cL_law 1251 = .ok (.if_icmp .eq 5, 3) := by decide +kernel
theorem dL_law_1254 : decode cL_law 1254 = .ok (.iconst 0, 1) := by decide +kernel
theorem dL_law_1255 : decode cL_law 1255 = .ok (.ireturn, 1) := by decide +kernel
theorem dL_law_1256 : decode cL_law 1256 = .ok (.iinc 4 4, 3) := by decide +kernel
theorem dL_law_1259 : decode cL_law 1259 = .ok (.goto (-1236), 3) := by decide +kernel
theorem dL_law_1262 : decode cL_law 1262 = .ok (.iconst 1, 1) := by decide +kernel
theorem dL_law_1263 : decode cL_law 1263 = .ok (.ireturn, 1) := by decide +kernel
abbrev vwCl : List vw_C := [(RX0, TX0, 2), (RX1, TX1, 13), (RX2, TX2, 3), (RX3, TX3, 8), (RX4, TX4, 26)]
/-- the objects of DefaultFund$Auction, kind 0: what each holds, by its address -/
structure wK_O_Auction where
  f_bids : Nat → Option Nat
  f_lots : Nat → Int32
/-- the objects of DefaultFund$Member, kind 1: what each holds, by its address -/
structure wK_O_Member where
  f_clients : Nat → Option Nat
  f_clientCount : Nat → Int32
  f_clientLots : Nat → Int32
  f_state : Nat → Int32
  f_margin : Nat → Int32
  f_share : Nat → Int32
  f_room : Nat → Int32
  f_gain : Nat → Int32
  f_tested : Nat → Int32
  f_junior : Nat → Int32
  f_assessed : Nat → Int32
  f_won : Nat → Int32
  f_shareAtFailure : Nat → Int32
/-- the objects of DefaultFund$Parting, kind 2: what each holds, by its address -/
structure wK_O_Parting where
  f_weights : Nat → Option Nat
  f_bounds : Nat → Option Nat
  f_parts : Nat → Option Nat
/-- the objects of DefaultFund, kind 3: what each holds, by its address -/
structure wK_O_DefaultFund where
  f_members : Nat → Option Nat
  f_auction : Nat → Option Nat
  f_parting : Nat → Option Nat
  f_count : Nat → Int32
  f_capital : Nat → Int32
  f_loss : Nat → Int32
  f_uncovered : Nat → Int32
  f_failing : Nat → Int32
/-- the objects of DefaultFundModel, kind 4: what each holds, by its address -/
structure wK_O_DefaultFundModel where
  f_margins : Nat → Option Nat
  f_sharesOf : Nat → Option Nat
  f_rooms : Nat → Option Nat
  f_gains : Nat → Option Nat
  f_tested : Nat → Option Nat
  f_states : Nat → Option Nat
  f_juniors : Nat → Option Nat
  f_assessedBy : Nat → Option Nat
  f_wonBy : Nat → Option Nat
  f_many : Nat → Int32
  f_owners : Nat → Option Nat
  f_lotsOf : Nat → Option Nat
  f_cameAt : Nat → Option Nat
  f_came : Nat → Int32
  f_clients : Nat → Int32
  f_capitalNow : Nat → Int32
  f_lossNow : Nat → Int32
  f_uncoveredNow : Nat → Int32
  f_failed : Nat → Int32
  f_book : Nat → Int32
  f_bids : Nat → Option Nat
  f_sharesThen : Nat → Option Nat
  f_weights : Nat → Option Nat
  f_bounds : Nat → Option Nat
  f_parts : Nat → Option Nat
  f_thrown : Nat → Int32
/-- the arrays of kind 5: what each holds, by its address -/
structure wK_R_I where
  len : Nat → Nat
  row : Nat → Nat → Int32
/-- the arrays of kind 6: what each holds, by its address -/
structure wK_R_Member where
  len : Nat → Nat
  row : Nat → Nat → Option Nat
/-- the arrays of kind 7: what each holds, by its address -/
structure wK_R__I where
  len : Nat → Nat
  row : Nat → Nat → Option Nat
/-- the pool: the addresses, the kind of each, and the kinds -/
structure wPS where
  L : List Nat
  K : Nat → Nat
  O_Auction : wK_O_Auction
  O_Member : wK_O_Member
  O_Parting : wK_O_Parting
  O_DefaultFund : wK_O_DefaultFund
  O_DefaultFundModel : wK_O_DefaultFundModel
  R_I : wK_R_I
  R_Member : wK_R_Member
  R__I : wK_R__I
/-- the empty pool -/
abbrev wP0 : wPS := { L := [], K := (fun _ => 0), O_Auction := { f_bids := (fun _ => none), f_lots := (fun _ => 0) }, O_Member := { f_clients := (fun _ => none), f_clientCount := (fun _ => 0), f_clientLots := (fun _ => 0), f_state := (fun _ => 0), f_margin := (fun _ => 0), f_share := (fun _ => 0), f_room := (fun _ => 0), f_gain := (fun _ => 0), f_tested := (fun _ => 0), f_junior := (fun _ => 0), f_assessed := (fun _ => 0), f_won := (fun _ => 0), f_shareAtFailure := (fun _ => 0) }, O_Parting := { f_weights := (fun _ => none), f_bounds := (fun _ => none), f_parts := (fun _ => none) }, O_DefaultFund := { f_members := (fun _ => none), f_auction := (fun _ => none), f_parting := (fun _ => none), f_count := (fun _ => 0), f_capital := (fun _ => 0), f_loss := (fun _ => 0), f_uncovered := (fun _ => 0), f_failing := (fun _ => 0) }, O_DefaultFundModel := { f_margins := (fun _ => none), f_sharesOf := (fun _ => none), f_rooms := (fun _ => none), f_gains := (fun _ => none), f_tested := (fun _ => none), f_states := (fun _ => none), f_juniors := (fun _ => none), f_assessedBy := (fun _ => none), f_wonBy := (fun _ => none), f_many := (fun _ => 0), f_owners := (fun _ => none), f_lotsOf := (fun _ => none), f_cameAt := (fun _ => none), f_came := (fun _ => 0), f_clients := (fun _ => 0), f_capitalNow := (fun _ => 0), f_lossNow := (fun _ => 0), f_uncoveredNow := (fun _ => 0), f_failed := (fun _ => 0), f_book := (fun _ => 0), f_bids := (fun _ => none), f_sharesThen := (fun _ => none), f_weights := (fun _ => none), f_bounds := (fun _ => none), f_parts := (fun _ => none), f_thrown := (fun _ => 0) }, R_I := { len := (fun _ => 0), row := (fun _ _ => 0) }, R_Member := { len := (fun _ => 0), row := (fun _ _ => none) }, R__I := { len := (fun _ => 0), row := (fun _ _ => none) } }
/-- the pool's rows by their kinds -/
abbrev wPF (cyI : ClassId) (cyO51b95 : ClassId) (cyO28f5b : ClassId) (S : wPS) : Nat → va_E := fun a => if S.K a = 0 then .inr (0, [va_rf (S.O_Auction.f_bids a), .int (S.O_Auction.f_lots a)]) else if S.K a = 1 then .inr (1, [va_rf (S.O_Member.f_clients a), .int (S.O_Member.f_clientCount a), .int (S.O_Member.f_clientLots a), .int (S.O_Member.f_state a), .int (S.O_Member.f_margin a), .int (S.O_Member.f_share a), .int (S.O_Member.f_room a), .int (S.O_Member.f_gain a), .int (S.O_Member.f_tested a), .int (S.O_Member.f_junior a), .int (S.O_Member.f_assessed a), .int (S.O_Member.f_won a), .int (S.O_Member.f_shareAtFailure a)]) else if S.K a = 2 then .inr (2, [va_rf (S.O_Parting.f_weights a), va_rf (S.O_Parting.f_bounds a), va_rf (S.O_Parting.f_parts a)]) else if S.K a = 3 then .inr (3, [va_rf (S.O_DefaultFund.f_members a), va_rf (S.O_DefaultFund.f_auction a), va_rf (S.O_DefaultFund.f_parting a), .int (S.O_DefaultFund.f_count a), .int (S.O_DefaultFund.f_capital a), .int (S.O_DefaultFund.f_loss a), .int (S.O_DefaultFund.f_uncovered a), .int (S.O_DefaultFund.f_failing a)]) else if S.K a = 4 then .inr (4, [va_rf (S.O_DefaultFundModel.f_margins a), va_rf (S.O_DefaultFundModel.f_sharesOf a), va_rf (S.O_DefaultFundModel.f_rooms a), va_rf (S.O_DefaultFundModel.f_gains a), va_rf (S.O_DefaultFundModel.f_tested a), va_rf (S.O_DefaultFundModel.f_states a), va_rf (S.O_DefaultFundModel.f_juniors a), va_rf (S.O_DefaultFundModel.f_assessedBy a), va_rf (S.O_DefaultFundModel.f_wonBy a), .int (S.O_DefaultFundModel.f_many a), va_rf (S.O_DefaultFundModel.f_owners a), va_rf (S.O_DefaultFundModel.f_lotsOf a), va_rf (S.O_DefaultFundModel.f_cameAt a), .int (S.O_DefaultFundModel.f_came a), .int (S.O_DefaultFundModel.f_clients a), .int (S.O_DefaultFundModel.f_capitalNow a), .int (S.O_DefaultFundModel.f_lossNow a), .int (S.O_DefaultFundModel.f_uncoveredNow a), .int (S.O_DefaultFundModel.f_failed a), .int (S.O_DefaultFundModel.f_book a), va_rf (S.O_DefaultFundModel.f_bids a), va_rf (S.O_DefaultFundModel.f_sharesThen a), va_rf (S.O_DefaultFundModel.f_weights a), va_rf (S.O_DefaultFundModel.f_bounds a), va_rf (S.O_DefaultFundModel.f_parts a), .int (S.O_DefaultFundModel.f_thrown a)]) else if S.K a = 5 then .inl (cyI, S.R_I.len a, .inl (S.R_I.row a)) else if S.K a = 6 then .inl (cyO51b95, S.R_Member.len a, .inr (.inr (.inr (.inr (S.R_Member.row a))))) else .inl (cyO28f5b, S.R__I.len a, .inr (.inr (.inr (.inr (S.R__I.row a)))))
theorem wAt_O_Auction (cyI : ClassId) (cyO51b95 : ClassId) (cyO28f5b : ClassId) (S : wPS) {a : Nat} (h : S.K a = 0) : wPF cyI cyO51b95 cyO28f5b S a = .inr (0, [va_rf (S.O_Auction.f_bids a), .int (S.O_Auction.f_lots a)]) := by simp [wPF, h]
theorem wGt_O_Auction (cyI : ClassId) (cyO51b95 : ClassId) (cyO28f5b : ClassId) (X : va_W) (S : wPS) {a : Nat} (hL : a ∈ S.L) (h : S.K a = 0) : ∃ k : Nat, (X ++ va_pl S.L (wPF cyI cyO51b95 cyO28f5b S))[k]? = some (a, wPF cyI cyO51b95 cyO28f5b S a) ∧ (X ++ va_pl S.L (wPF cyI cyO51b95 cyO28f5b S))[k]? = some (a, .inr (0, [va_rf (S.O_Auction.f_bids a), .int (S.O_Auction.f_lots a)])) := by
  obtain ⟨k, hk⟩ := va_pl_get (X := X) (f := wPF cyI cyO51b95 cyO28f5b S) hL
  exact ⟨k, hk, hk.trans (congrArg (fun e => some (a, e)) (wAt_O_Auction cyI cyO51b95 cyO28f5b S h))⟩
theorem wSt_O_Auction_f_bids (cyI : ClassId) (cyO51b95 : ClassId) (cyO28f5b : ClassId) (S : wPS) {a : Nat} (h : S.K a = 0) (v : Option Nat) (b : Nat) : va_up (wPF cyI cyO51b95 cyO28f5b S) a (.inr (0, [va_rf v, .int (S.O_Auction.f_lots a)])) b = wPF cyI cyO51b95 cyO28f5b { S with O_Auction := { S.O_Auction with f_bids := va_up S.O_Auction.f_bids a v } } b := by by_cases hb : b = a <;> first | (simp only [wPF, va_up_ne _ _ hb]; done) | (simp only [wPF, va_up, if_neg hb]; done) | simp [wPF, va_re, va_up, va_rf, hb, h]
theorem wPu_O_Auction_f_bids (cyI : ClassId) (cyO51b95 : ClassId) (cyO28f5b : ClassId) (X : va_W) (S : wPS) {A : Nat → Prop} {a k : Nat} (hD : va_D A (X ++ va_pl S.L (wPF cyI cyO51b95 cyO28f5b S))) (hL : a ∈ S.L) (h : S.K a = 0) (hk : (X ++ va_pl S.L (wPF cyI cyO51b95 cyO28f5b S))[k]? = some (a, wPF cyI cyO51b95 cyO28f5b S a)) (v : Option Nat) : (X ++ va_pl S.L (wPF cyI cyO51b95 cyO28f5b S)).set k (a, .inr (0, [va_rf v, .int (S.O_Auction.f_lots a)])) = X ++ va_pl S.L (wPF cyI cyO51b95 cyO28f5b { S with O_Auction := { S.O_Auction with f_bids := va_up S.O_Auction.f_bids a v } }) := by
  rw [va_pl_set hD hL hk]
  exact congrArg (fun l => X ++ l) (va_pl_congr (wSt_O_Auction_f_bids cyI cyO51b95 cyO28f5b S h v))
theorem wSt_O_Auction_f_lots (cyI : ClassId) (cyO51b95 : ClassId) (cyO28f5b : ClassId) (S : wPS) {a : Nat} (h : S.K a = 0) (v : Int32) (b : Nat) : va_up (wPF cyI cyO51b95 cyO28f5b S) a (.inr (0, [va_rf (S.O_Auction.f_bids a), .int v])) b = wPF cyI cyO51b95 cyO28f5b { S with O_Auction := { S.O_Auction with f_lots := va_up S.O_Auction.f_lots a v } } b := by by_cases hb : b = a <;> first | (simp only [wPF, va_up_ne _ _ hb]; done) | (simp only [wPF, va_up, if_neg hb]; done) | simp [wPF, va_re, va_up, va_rf, hb, h]
theorem wPu_O_Auction_f_lots (cyI : ClassId) (cyO51b95 : ClassId) (cyO28f5b : ClassId) (X : va_W) (S : wPS) {A : Nat → Prop} {a k : Nat} (hD : va_D A (X ++ va_pl S.L (wPF cyI cyO51b95 cyO28f5b S))) (hL : a ∈ S.L) (h : S.K a = 0) (hk : (X ++ va_pl S.L (wPF cyI cyO51b95 cyO28f5b S))[k]? = some (a, wPF cyI cyO51b95 cyO28f5b S a)) (v : Int32) : (X ++ va_pl S.L (wPF cyI cyO51b95 cyO28f5b S)).set k (a, .inr (0, [va_rf (S.O_Auction.f_bids a), .int v])) = X ++ va_pl S.L (wPF cyI cyO51b95 cyO28f5b { S with O_Auction := { S.O_Auction with f_lots := va_up S.O_Auction.f_lots a v } }) := by
  rw [va_pl_set hD hL hk]
  exact congrArg (fun l => X ++ l) (va_pl_congr (wSt_O_Auction_f_lots cyI cyO51b95 cyO28f5b S h v))
theorem wNw_O_Auction (cyI : ClassId) (cyO51b95 : ClassId) (cyO28f5b : ClassId) (S : wPS) (a b : Nat) : va_up (wPF cyI cyO51b95 cyO28f5b S) a (.inr (0, [.null, .int 0])) b = wPF cyI cyO51b95 cyO28f5b { S with L := S.L ++ [a], K := va_up S.K a 0, O_Auction := { f_bids := va_up S.O_Auction.f_bids a none, f_lots := va_up S.O_Auction.f_lots a 0 } } b := by by_cases hb : b = a <;> first | (simp only [wPF, va_up_ne _ _ hb]; done) | (simp only [wPF, va_up, if_neg hb]; done) | simp [wPF, va_re, va_up, va_rf, hb]
theorem wPn_O_Auction (cyI : ClassId) (cyO51b95 : ClassId) (cyO28f5b : ClassId) (X : va_W) (S : wPS) {a : Nat} (ha : a ∉ S.L) : (X ++ va_pl S.L (wPF cyI cyO51b95 cyO28f5b S)) ++ [(a, .inr (0, [.null, .int 0]))] = X ++ va_pl (S.L ++ [a]) (wPF cyI cyO51b95 cyO28f5b { S with L := S.L ++ [a], K := va_up S.K a 0, O_Auction := { f_bids := va_up S.O_Auction.f_bids a none, f_lots := va_up S.O_Auction.f_lots a 0 } }) := by
  rw [List.append_assoc, va_pl_push ha]
  exact congrArg (fun l => X ++ l) (va_pl_congr (wNw_O_Auction cyI cyO51b95 cyO28f5b S a))
theorem wAt_O_Member (cyI : ClassId) (cyO51b95 : ClassId) (cyO28f5b : ClassId) (S : wPS) {a : Nat} (h : S.K a = 1) : wPF cyI cyO51b95 cyO28f5b S a = .inr (1, [va_rf (S.O_Member.f_clients a), .int (S.O_Member.f_clientCount a), .int (S.O_Member.f_clientLots a), .int (S.O_Member.f_state a), .int (S.O_Member.f_margin a), .int (S.O_Member.f_share a), .int (S.O_Member.f_room a), .int (S.O_Member.f_gain a), .int (S.O_Member.f_tested a), .int (S.O_Member.f_junior a), .int (S.O_Member.f_assessed a), .int (S.O_Member.f_won a), .int (S.O_Member.f_shareAtFailure a)]) := by simp [wPF, h]
theorem wGt_O_Member (cyI : ClassId) (cyO51b95 : ClassId) (cyO28f5b : ClassId) (X : va_W) (S : wPS) {a : Nat} (hL : a ∈ S.L) (h : S.K a = 1) : ∃ k : Nat, (X ++ va_pl S.L (wPF cyI cyO51b95 cyO28f5b S))[k]? = some (a, wPF cyI cyO51b95 cyO28f5b S a) ∧ (X ++ va_pl S.L (wPF cyI cyO51b95 cyO28f5b S))[k]? = some (a, .inr (1, [va_rf (S.O_Member.f_clients a), .int (S.O_Member.f_clientCount a), .int (S.O_Member.f_clientLots a), .int (S.O_Member.f_state a), .int (S.O_Member.f_margin a), .int (S.O_Member.f_share a), .int (S.O_Member.f_room a), .int (S.O_Member.f_gain a), .int (S.O_Member.f_tested a), .int (S.O_Member.f_junior a), .int (S.O_Member.f_assessed a), .int (S.O_Member.f_won a), .int (S.O_Member.f_shareAtFailure a)])) := by
  obtain ⟨k, hk⟩ := va_pl_get (X := X) (f := wPF cyI cyO51b95 cyO28f5b S) hL
  exact ⟨k, hk, hk.trans (congrArg (fun e => some (a, e)) (wAt_O_Member cyI cyO51b95 cyO28f5b S h))⟩
theorem wSt_O_Member_f_clients (cyI : ClassId) (cyO51b95 : ClassId) (cyO28f5b : ClassId) (S : wPS) {a : Nat} (h : S.K a = 1) (v : Option Nat) (b : Nat) : va_up (wPF cyI cyO51b95 cyO28f5b S) a (.inr (1, [va_rf v, .int (S.O_Member.f_clientCount a), .int (S.O_Member.f_clientLots a), .int (S.O_Member.f_state a), .int (S.O_Member.f_margin a), .int (S.O_Member.f_share a), .int (S.O_Member.f_room a), .int (S.O_Member.f_gain a), .int (S.O_Member.f_tested a), .int (S.O_Member.f_junior a), .int (S.O_Member.f_assessed a), .int (S.O_Member.f_won a), .int (S.O_Member.f_shareAtFailure a)])) b = wPF cyI cyO51b95 cyO28f5b { S with O_Member := { S.O_Member with f_clients := va_up S.O_Member.f_clients a v } } b := by by_cases hb : b = a <;> first | (simp only [wPF, va_up_ne _ _ hb]; done) | (simp only [wPF, va_up, if_neg hb]; done) | simp [wPF, va_re, va_up, va_rf, hb, h]
theorem wPu_O_Member_f_clients (cyI : ClassId) (cyO51b95 : ClassId) (cyO28f5b : ClassId) (X : va_W) (S : wPS) {A : Nat → Prop} {a k : Nat} (hD : va_D A (X ++ va_pl S.L (wPF cyI cyO51b95 cyO28f5b S))) (hL : a ∈ S.L) (h : S.K a = 1) (hk : (X ++ va_pl S.L (wPF cyI cyO51b95 cyO28f5b S))[k]? = some (a, wPF cyI cyO51b95 cyO28f5b S a)) (v : Option Nat) : (X ++ va_pl S.L (wPF cyI cyO51b95 cyO28f5b S)).set k (a, .inr (1, [va_rf v, .int (S.O_Member.f_clientCount a), .int (S.O_Member.f_clientLots a), .int (S.O_Member.f_state a), .int (S.O_Member.f_margin a), .int (S.O_Member.f_share a), .int (S.O_Member.f_room a), .int (S.O_Member.f_gain a), .int (S.O_Member.f_tested a), .int (S.O_Member.f_junior a), .int (S.O_Member.f_assessed a), .int (S.O_Member.f_won a), .int (S.O_Member.f_shareAtFailure a)])) = X ++ va_pl S.L (wPF cyI cyO51b95 cyO28f5b { S with O_Member := { S.O_Member with f_clients := va_up S.O_Member.f_clients a v } }) := by
  rw [va_pl_set hD hL hk]
  exact congrArg (fun l => X ++ l) (va_pl_congr (wSt_O_Member_f_clients cyI cyO51b95 cyO28f5b S h v))
theorem wSt_O_Member_f_clientCount (cyI : ClassId) (cyO51b95 : ClassId) (cyO28f5b : ClassId) (S : wPS) {a : Nat} (h : S.K a = 1) (v : Int32) (b : Nat) : va_up (wPF cyI cyO51b95 cyO28f5b S) a (.inr (1, [va_rf (S.O_Member.f_clients a), .int v, .int (S.O_Member.f_clientLots a), .int (S.O_Member.f_state a), .int (S.O_Member.f_margin a), .int (S.O_Member.f_share a), .int (S.O_Member.f_room a), .int (S.O_Member.f_gain a), .int (S.O_Member.f_tested a), .int (S.O_Member.f_junior a), .int (S.O_Member.f_assessed a), .int (S.O_Member.f_won a), .int (S.O_Member.f_shareAtFailure a)])) b = wPF cyI cyO51b95 cyO28f5b { S with O_Member := { S.O_Member with f_clientCount := va_up S.O_Member.f_clientCount a v } } b := by by_cases hb : b = a <;> first | (simp only [wPF, va_up_ne _ _ hb]; done) | (simp only [wPF, va_up, if_neg hb]; done) | simp [wPF, va_re, va_up, va_rf, hb, h]
theorem wPu_O_Member_f_clientCount (cyI : ClassId) (cyO51b95 : ClassId) (cyO28f5b : ClassId) (X : va_W) (S : wPS) {A : Nat → Prop} {a k : Nat} (hD : va_D A (X ++ va_pl S.L (wPF cyI cyO51b95 cyO28f5b S))) (hL : a ∈ S.L) (h : S.K a = 1) (hk : (X ++ va_pl S.L (wPF cyI cyO51b95 cyO28f5b S))[k]? = some (a, wPF cyI cyO51b95 cyO28f5b S a)) (v : Int32) : (X ++ va_pl S.L (wPF cyI cyO51b95 cyO28f5b S)).set k (a, .inr (1, [va_rf (S.O_Member.f_clients a), .int v, .int (S.O_Member.f_clientLots a), .int (S.O_Member.f_state a), .int (S.O_Member.f_margin a), .int (S.O_Member.f_share a), .int (S.O_Member.f_room a), .int (S.O_Member.f_gain a), .int (S.O_Member.f_tested a), .int (S.O_Member.f_junior a), .int (S.O_Member.f_assessed a), .int (S.O_Member.f_won a), .int (S.O_Member.f_shareAtFailure a)])) = X ++ va_pl S.L (wPF cyI cyO51b95 cyO28f5b { S with O_Member := { S.O_Member with f_clientCount := va_up S.O_Member.f_clientCount a v } }) := by
  rw [va_pl_set hD hL hk]
  exact congrArg (fun l => X ++ l) (va_pl_congr (wSt_O_Member_f_clientCount cyI cyO51b95 cyO28f5b S h v))
theorem wSt_O_Member_f_clientLots (cyI : ClassId) (cyO51b95 : ClassId) (cyO28f5b : ClassId) (S : wPS) {a : Nat} (h : S.K a = 1) (v : Int32) (b : Nat) : va_up (wPF cyI cyO51b95 cyO28f5b S) a (.inr (1, [va_rf (S.O_Member.f_clients a), .int (S.O_Member.f_clientCount a), .int v, .int (S.O_Member.f_state a), .int (S.O_Member.f_margin a), .int (S.O_Member.f_share a), .int (S.O_Member.f_room a), .int (S.O_Member.f_gain a), .int (S.O_Member.f_tested a), .int (S.O_Member.f_junior a), .int (S.O_Member.f_assessed a), .int (S.O_Member.f_won a), .int (S.O_Member.f_shareAtFailure a)])) b = wPF cyI cyO51b95 cyO28f5b { S with O_Member := { S.O_Member with f_clientLots := va_up S.O_Member.f_clientLots a v } } b := by by_cases hb : b = a <;> first | (simp only [wPF, va_up_ne _ _ hb]; done) | (simp only [wPF, va_up, if_neg hb]; done) | simp [wPF, va_re, va_up, va_rf, hb, h]
theorem wPu_O_Member_f_clientLots (cyI : ClassId) (cyO51b95 : ClassId) (cyO28f5b : ClassId) (X : va_W) (S : wPS) {A : Nat → Prop} {a k : Nat} (hD : va_D A (X ++ va_pl S.L (wPF cyI cyO51b95 cyO28f5b S))) (hL : a ∈ S.L) (h : S.K a = 1) (hk : (X ++ va_pl S.L (wPF cyI cyO51b95 cyO28f5b S))[k]? = some (a, wPF cyI cyO51b95 cyO28f5b S a)) (v : Int32) : (X ++ va_pl S.L (wPF cyI cyO51b95 cyO28f5b S)).set k (a, .inr (1, [va_rf (S.O_Member.f_clients a), .int (S.O_Member.f_clientCount a), .int v, .int (S.O_Member.f_state a), .int (S.O_Member.f_margin a), .int (S.O_Member.f_share a), .int (S.O_Member.f_room a), .int (S.O_Member.f_gain a), .int (S.O_Member.f_tested a), .int (S.O_Member.f_junior a), .int (S.O_Member.f_assessed a), .int (S.O_Member.f_won a), .int (S.O_Member.f_shareAtFailure a)])) = X ++ va_pl S.L (wPF cyI cyO51b95 cyO28f5b { S with O_Member := { S.O_Member with f_clientLots := va_up S.O_Member.f_clientLots a v } }) := by
  rw [va_pl_set hD hL hk]
  exact congrArg (fun l => X ++ l) (va_pl_congr (wSt_O_Member_f_clientLots cyI cyO51b95 cyO28f5b S h v))
theorem wSt_O_Member_f_state (cyI : ClassId) (cyO51b95 : ClassId) (cyO28f5b : ClassId) (S : wPS) {a : Nat} (h : S.K a = 1) (v : Int32) (b : Nat) : va_up (wPF cyI cyO51b95 cyO28f5b S) a (.inr (1, [va_rf (S.O_Member.f_clients a), .int (S.O_Member.f_clientCount a), .int (S.O_Member.f_clientLots a), .int v, .int (S.O_Member.f_margin a), .int (S.O_Member.f_share a), .int (S.O_Member.f_room a), .int (S.O_Member.f_gain a), .int (S.O_Member.f_tested a), .int (S.O_Member.f_junior a), .int (S.O_Member.f_assessed a), .int (S.O_Member.f_won a), .int (S.O_Member.f_shareAtFailure a)])) b = wPF cyI cyO51b95 cyO28f5b { S with O_Member := { S.O_Member with f_state := va_up S.O_Member.f_state a v } } b := by by_cases hb : b = a <;> first | (simp only [wPF, va_up_ne _ _ hb]; done) | (simp only [wPF, va_up, if_neg hb]; done) | simp [wPF, va_re, va_up, va_rf, hb, h]
theorem wPu_O_Member_f_state (cyI : ClassId) (cyO51b95 : ClassId) (cyO28f5b : ClassId) (X : va_W) (S : wPS) {A : Nat → Prop} {a k : Nat} (hD : va_D A (X ++ va_pl S.L (wPF cyI cyO51b95 cyO28f5b S))) (hL : a ∈ S.L) (h : S.K a = 1) (hk : (X ++ va_pl S.L (wPF cyI cyO51b95 cyO28f5b S))[k]? = some (a, wPF cyI cyO51b95 cyO28f5b S a)) (v : Int32) : (X ++ va_pl S.L (wPF cyI cyO51b95 cyO28f5b S)).set k (a, .inr (1, [va_rf (S.O_Member.f_clients a), .int (S.O_Member.f_clientCount a), .int (S.O_Member.f_clientLots a), .int v, .int (S.O_Member.f_margin a), .int (S.O_Member.f_share a), .int (S.O_Member.f_room a), .int (S.O_Member.f_gain a), .int (S.O_Member.f_tested a), .int (S.O_Member.f_junior a), .int (S.O_Member.f_assessed a), .int (S.O_Member.f_won a), .int (S.O_Member.f_shareAtFailure a)])) = X ++ va_pl S.L (wPF cyI cyO51b95 cyO28f5b { S with O_Member := { S.O_Member with f_state := va_up S.O_Member.f_state a v } }) := by
  rw [va_pl_set hD hL hk]
  exact congrArg (fun l => X ++ l) (va_pl_congr (wSt_O_Member_f_state cyI cyO51b95 cyO28f5b S h v))
theorem wSt_O_Member_f_margin (cyI : ClassId) (cyO51b95 : ClassId) (cyO28f5b : ClassId) (S : wPS) {a : Nat} (h : S.K a = 1) (v : Int32) (b : Nat) : va_up (wPF cyI cyO51b95 cyO28f5b S) a (.inr (1, [va_rf (S.O_Member.f_clients a), .int (S.O_Member.f_clientCount a), .int (S.O_Member.f_clientLots a), .int (S.O_Member.f_state a), .int v, .int (S.O_Member.f_share a), .int (S.O_Member.f_room a), .int (S.O_Member.f_gain a), .int (S.O_Member.f_tested a), .int (S.O_Member.f_junior a), .int (S.O_Member.f_assessed a), .int (S.O_Member.f_won a), .int (S.O_Member.f_shareAtFailure a)])) b = wPF cyI cyO51b95 cyO28f5b { S with O_Member := { S.O_Member with f_margin := va_up S.O_Member.f_margin a v } } b := by by_cases hb : b = a <;> first | (simp only [wPF, va_up_ne _ _ hb]; done) | (simp only [wPF, va_up, if_neg hb]; done) | simp [wPF, va_re, va_up, va_rf, hb, h]
theorem wPu_O_Member_f_margin (cyI : ClassId) (cyO51b95 : ClassId) (cyO28f5b : ClassId) (X : va_W) (S : wPS) {A : Nat → Prop} {a k : Nat} (hD : va_D A (X ++ va_pl S.L (wPF cyI cyO51b95 cyO28f5b S))) (hL : a ∈ S.L) (h : S.K a = 1) (hk : (X ++ va_pl S.L (wPF cyI cyO51b95 cyO28f5b S))[k]? = some (a, wPF cyI cyO51b95 cyO28f5b S a)) (v : Int32) : (X ++ va_pl S.L (wPF cyI cyO51b95 cyO28f5b S)).set k (a, .inr (1, [va_rf (S.O_Member.f_clients a), .int (S.O_Member.f_clientCount a), .int (S.O_Member.f_clientLots a), .int (S.O_Member.f_state a), .int v, .int (S.O_Member.f_share a), .int (S.O_Member.f_room a), .int (S.O_Member.f_gain a), .int (S.O_Member.f_tested a), .int (S.O_Member.f_junior a), .int (S.O_Member.f_assessed a), .int (S.O_Member.f_won a), .int (S.O_Member.f_shareAtFailure a)])) = X ++ va_pl S.L (wPF cyI cyO51b95 cyO28f5b { S with O_Member := { S.O_Member with f_margin := va_up S.O_Member.f_margin a v } }) := by
  rw [va_pl_set hD hL hk]
  exact congrArg (fun l => X ++ l) (va_pl_congr (wSt_O_Member_f_margin cyI cyO51b95 cyO28f5b S h v))
theorem wSt_O_Member_f_share (cyI : ClassId) (cyO51b95 : ClassId) (cyO28f5b : ClassId) (S : wPS) {a : Nat} (h : S.K a = 1) (v : Int32) (b : Nat) : va_up (wPF cyI cyO51b95 cyO28f5b S) a (.inr (1, [va_rf (S.O_Member.f_clients a), .int (S.O_Member.f_clientCount a), .int (S.O_Member.f_clientLots a), .int (S.O_Member.f_state a), .int (S.O_Member.f_margin a), .int v, .int (S.O_Member.f_room a), .int (S.O_Member.f_gain a), .int (S.O_Member.f_tested a), .int (S.O_Member.f_junior a), .int (S.O_Member.f_assessed a), .int (S.O_Member.f_won a), .int (S.O_Member.f_shareAtFailure a)])) b = wPF cyI cyO51b95 cyO28f5b { S with O_Member := { S.O_Member with f_share := va_up S.O_Member.f_share a v } } b := by by_cases hb : b = a <;> first | (simp only [wPF, va_up_ne _ _ hb]; done) | (simp only [wPF, va_up, if_neg hb]; done) | simp [wPF, va_re, va_up, va_rf, hb, h]
theorem wPu_O_Member_f_share (cyI : ClassId) (cyO51b95 : ClassId) (cyO28f5b : ClassId) (X : va_W) (S : wPS) {A : Nat → Prop} {a k : Nat} (hD : va_D A (X ++ va_pl S.L (wPF cyI cyO51b95 cyO28f5b S))) (hL : a ∈ S.L) (h : S.K a = 1) (hk : (X ++ va_pl S.L (wPF cyI cyO51b95 cyO28f5b S))[k]? = some (a, wPF cyI cyO51b95 cyO28f5b S a)) (v : Int32) : (X ++ va_pl S.L (wPF cyI cyO51b95 cyO28f5b S)).set k (a, .inr (1, [va_rf (S.O_Member.f_clients a), .int (S.O_Member.f_clientCount a), .int (S.O_Member.f_clientLots a), .int (S.O_Member.f_state a), .int (S.O_Member.f_margin a), .int v, .int (S.O_Member.f_room a), .int (S.O_Member.f_gain a), .int (S.O_Member.f_tested a), .int (S.O_Member.f_junior a), .int (S.O_Member.f_assessed a), .int (S.O_Member.f_won a), .int (S.O_Member.f_shareAtFailure a)])) = X ++ va_pl S.L (wPF cyI cyO51b95 cyO28f5b { S with O_Member := { S.O_Member with f_share := va_up S.O_Member.f_share a v } }) := by
  rw [va_pl_set hD hL hk]
  exact congrArg (fun l => X ++ l) (va_pl_congr (wSt_O_Member_f_share cyI cyO51b95 cyO28f5b S h v))
theorem wSt_O_Member_f_room (cyI : ClassId) (cyO51b95 : ClassId) (cyO28f5b : ClassId) (S : wPS) {a : Nat} (h : S.K a = 1) (v : Int32) (b : Nat) : va_up (wPF cyI cyO51b95 cyO28f5b S) a (.inr (1, [va_rf (S.O_Member.f_clients a), .int (S.O_Member.f_clientCount a), .int (S.O_Member.f_clientLots a), .int (S.O_Member.f_state a), .int (S.O_Member.f_margin a), .int (S.O_Member.f_share a), .int v, .int (S.O_Member.f_gain a), .int (S.O_Member.f_tested a), .int (S.O_Member.f_junior a), .int (S.O_Member.f_assessed a), .int (S.O_Member.f_won a), .int (S.O_Member.f_shareAtFailure a)])) b = wPF cyI cyO51b95 cyO28f5b { S with O_Member := { S.O_Member with f_room := va_up S.O_Member.f_room a v } } b := by by_cases hb : b = a <;> first | (simp only [wPF, va_up_ne _ _ hb]; done) | (simp only [wPF, va_up, if_neg hb]; done) | simp [wPF, va_re, va_up, va_rf, hb, h]
theorem wPu_O_Member_f_room (cyI : ClassId) (cyO51b95 : ClassId) (cyO28f5b : ClassId) (X : va_W) (S : wPS) {A : Nat → Prop} {a k : Nat} (hD : va_D A (X ++ va_pl S.L (wPF cyI cyO51b95 cyO28f5b S))) (hL : a ∈ S.L) (h : S.K a = 1) (hk : (X ++ va_pl S.L (wPF cyI cyO51b95 cyO28f5b S))[k]? = some (a, wPF cyI cyO51b95 cyO28f5b S a)) (v : Int32) : (X ++ va_pl S.L (wPF cyI cyO51b95 cyO28f5b S)).set k (a, .inr (1, [va_rf (S.O_Member.f_clients a), .int (S.O_Member.f_clientCount a), .int (S.O_Member.f_clientLots a), .int (S.O_Member.f_state a), .int (S.O_Member.f_margin a), .int (S.O_Member.f_share a), .int v, .int (S.O_Member.f_gain a), .int (S.O_Member.f_tested a), .int (S.O_Member.f_junior a), .int (S.O_Member.f_assessed a), .int (S.O_Member.f_won a), .int (S.O_Member.f_shareAtFailure a)])) = X ++ va_pl S.L (wPF cyI cyO51b95 cyO28f5b { S with O_Member := { S.O_Member with f_room := va_up S.O_Member.f_room a v } }) := by
  rw [va_pl_set hD hL hk]
  exact congrArg (fun l => X ++ l) (va_pl_congr (wSt_O_Member_f_room cyI cyO51b95 cyO28f5b S h v))
theorem wSt_O_Member_f_gain (cyI : ClassId) (cyO51b95 : ClassId) (cyO28f5b : ClassId) (S : wPS) {a : Nat} (h : S.K a = 1) (v : Int32) (b : Nat) : va_up (wPF cyI cyO51b95 cyO28f5b S) a (.inr (1, [va_rf (S.O_Member.f_clients a), .int (S.O_Member.f_clientCount a), .int (S.O_Member.f_clientLots a), .int (S.O_Member.f_state a), .int (S.O_Member.f_margin a), .int (S.O_Member.f_share a), .int (S.O_Member.f_room a), .int v, .int (S.O_Member.f_tested a), .int (S.O_Member.f_junior a), .int (S.O_Member.f_assessed a), .int (S.O_Member.f_won a), .int (S.O_Member.f_shareAtFailure a)])) b = wPF cyI cyO51b95 cyO28f5b { S with O_Member := { S.O_Member with f_gain := va_up S.O_Member.f_gain a v } } b := by by_cases hb : b = a <;> first | (simp only [wPF, va_up_ne _ _ hb]; done) | (simp only [wPF, va_up, if_neg hb]; done) | simp [wPF, va_re, va_up, va_rf, hb, h]
theorem wPu_O_Member_f_gain (cyI : ClassId) (cyO51b95 : ClassId) (cyO28f5b : ClassId) (X : va_W) (S : wPS) {A : Nat → Prop} {a k : Nat} (hD : va_D A (X ++ va_pl S.L (wPF cyI cyO51b95 cyO28f5b S))) (hL : a ∈ S.L) (h : S.K a = 1) (hk : (X ++ va_pl S.L (wPF cyI cyO51b95 cyO28f5b S))[k]? = some (a, wPF cyI cyO51b95 cyO28f5b S a)) (v : Int32) : (X ++ va_pl S.L (wPF cyI cyO51b95 cyO28f5b S)).set k (a, .inr (1, [va_rf (S.O_Member.f_clients a), .int (S.O_Member.f_clientCount a), .int (S.O_Member.f_clientLots a), .int (S.O_Member.f_state a), .int (S.O_Member.f_margin a), .int (S.O_Member.f_share a), .int (S.O_Member.f_room a), .int v, .int (S.O_Member.f_tested a), .int (S.O_Member.f_junior a), .int (S.O_Member.f_assessed a), .int (S.O_Member.f_won a), .int (S.O_Member.f_shareAtFailure a)])) = X ++ va_pl S.L (wPF cyI cyO51b95 cyO28f5b { S with O_Member := { S.O_Member with f_gain := va_up S.O_Member.f_gain a v } }) := by
  rw [va_pl_set hD hL hk]
  exact congrArg (fun l => X ++ l) (va_pl_congr (wSt_O_Member_f_gain cyI cyO51b95 cyO28f5b S h v))
theorem wSt_O_Member_f_tested (cyI : ClassId) (cyO51b95 : ClassId) (cyO28f5b : ClassId) (S : wPS) {a : Nat} (h : S.K a = 1) (v : Int32) (b : Nat) : va_up (wPF cyI cyO51b95 cyO28f5b S) a (.inr (1, [va_rf (S.O_Member.f_clients a), .int (S.O_Member.f_clientCount a), .int (S.O_Member.f_clientLots a), .int (S.O_Member.f_state a), .int (S.O_Member.f_margin a), .int (S.O_Member.f_share a), .int (S.O_Member.f_room a), .int (S.O_Member.f_gain a), .int v, .int (S.O_Member.f_junior a), .int (S.O_Member.f_assessed a), .int (S.O_Member.f_won a), .int (S.O_Member.f_shareAtFailure a)])) b = wPF cyI cyO51b95 cyO28f5b { S with O_Member := { S.O_Member with f_tested := va_up S.O_Member.f_tested a v } } b := by by_cases hb : b = a <;> first | (simp only [wPF, va_up_ne _ _ hb]; done) | (simp only [wPF, va_up, if_neg hb]; done) | simp [wPF, va_re, va_up, va_rf, hb, h]
theorem wPu_O_Member_f_tested (cyI : ClassId) (cyO51b95 : ClassId) (cyO28f5b : ClassId) (X : va_W) (S : wPS) {A : Nat → Prop} {a k : Nat} (hD : va_D A (X ++ va_pl S.L (wPF cyI cyO51b95 cyO28f5b S))) (hL : a ∈ S.L) (h : S.K a = 1) (hk : (X ++ va_pl S.L (wPF cyI cyO51b95 cyO28f5b S))[k]? = some (a, wPF cyI cyO51b95 cyO28f5b S a)) (v : Int32) : (X ++ va_pl S.L (wPF cyI cyO51b95 cyO28f5b S)).set k (a, .inr (1, [va_rf (S.O_Member.f_clients a), .int (S.O_Member.f_clientCount a), .int (S.O_Member.f_clientLots a), .int (S.O_Member.f_state a), .int (S.O_Member.f_margin a), .int (S.O_Member.f_share a), .int (S.O_Member.f_room a), .int (S.O_Member.f_gain a), .int v, .int (S.O_Member.f_junior a), .int (S.O_Member.f_assessed a), .int (S.O_Member.f_won a), .int (S.O_Member.f_shareAtFailure a)])) = X ++ va_pl S.L (wPF cyI cyO51b95 cyO28f5b { S with O_Member := { S.O_Member with f_tested := va_up S.O_Member.f_tested a v } }) := by
  rw [va_pl_set hD hL hk]
  exact congrArg (fun l => X ++ l) (va_pl_congr (wSt_O_Member_f_tested cyI cyO51b95 cyO28f5b S h v))
theorem wSt_O_Member_f_junior (cyI : ClassId) (cyO51b95 : ClassId) (cyO28f5b : ClassId) (S : wPS) {a : Nat} (h : S.K a = 1) (v : Int32) (b : Nat) : va_up (wPF cyI cyO51b95 cyO28f5b S) a (.inr (1, [va_rf (S.O_Member.f_clients a), .int (S.O_Member.f_clientCount a), .int (S.O_Member.f_clientLots a), .int (S.O_Member.f_state a), .int (S.O_Member.f_margin a), .int (S.O_Member.f_share a), .int (S.O_Member.f_room a), .int (S.O_Member.f_gain a), .int (S.O_Member.f_tested a), .int v, .int (S.O_Member.f_assessed a), .int (S.O_Member.f_won a), .int (S.O_Member.f_shareAtFailure a)])) b = wPF cyI cyO51b95 cyO28f5b { S with O_Member := { S.O_Member with f_junior := va_up S.O_Member.f_junior a v } } b := by by_cases hb : b = a <;> first | (simp only [wPF, va_up_ne _ _ hb]; done) | (simp only [wPF, va_up, if_neg hb]; done) | simp [wPF, va_re, va_up, va_rf, hb, h]
theorem wPu_O_Member_f_junior (cyI : ClassId) (cyO51b95 : ClassId) (cyO28f5b : ClassId) (X : va_W) (S : wPS) {A : Nat → Prop} {a k : Nat} (hD : va_D A (X ++ va_pl S.L (wPF cyI cyO51b95 cyO28f5b S))) (hL : a ∈ S.L) (h : S.K a = 1) (hk : (X ++ va_pl S.L (wPF cyI cyO51b95 cyO28f5b S))[k]? = some (a, wPF cyI cyO51b95 cyO28f5b S a)) (v : Int32) : (X ++ va_pl S.L (wPF cyI cyO51b95 cyO28f5b S)).set k (a, .inr (1, [va_rf (S.O_Member.f_clients a), .int (S.O_Member.f_clientCount a), .int (S.O_Member.f_clientLots a), .int (S.O_Member.f_state a), .int (S.O_Member.f_margin a), .int (S.O_Member.f_share a), .int (S.O_Member.f_room a), .int (S.O_Member.f_gain a), .int (S.O_Member.f_tested a), .int v, .int (S.O_Member.f_assessed a), .int (S.O_Member.f_won a), .int (S.O_Member.f_shareAtFailure a)])) = X ++ va_pl S.L (wPF cyI cyO51b95 cyO28f5b { S with O_Member := { S.O_Member with f_junior := va_up S.O_Member.f_junior a v } }) := by
  rw [va_pl_set hD hL hk]
  exact congrArg (fun l => X ++ l) (va_pl_congr (wSt_O_Member_f_junior cyI cyO51b95 cyO28f5b S h v))
theorem wSt_O_Member_f_assessed (cyI : ClassId) (cyO51b95 : ClassId) (cyO28f5b : ClassId) (S : wPS) {a : Nat} (h : S.K a = 1) (v : Int32) (b : Nat) : va_up (wPF cyI cyO51b95 cyO28f5b S) a (.inr (1, [va_rf (S.O_Member.f_clients a), .int (S.O_Member.f_clientCount a), .int (S.O_Member.f_clientLots a), .int (S.O_Member.f_state a), .int (S.O_Member.f_margin a), .int (S.O_Member.f_share a), .int (S.O_Member.f_room a), .int (S.O_Member.f_gain a), .int (S.O_Member.f_tested a), .int (S.O_Member.f_junior a), .int v, .int (S.O_Member.f_won a), .int (S.O_Member.f_shareAtFailure a)])) b = wPF cyI cyO51b95 cyO28f5b { S with O_Member := { S.O_Member with f_assessed := va_up S.O_Member.f_assessed a v } } b := by by_cases hb : b = a <;> first | (simp only [wPF, va_up_ne _ _ hb]; done) | (simp only [wPF, va_up, if_neg hb]; done) | simp [wPF, va_re, va_up, va_rf, hb, h]
theorem wPu_O_Member_f_assessed (cyI : ClassId) (cyO51b95 : ClassId) (cyO28f5b : ClassId) (X : va_W) (S : wPS) {A : Nat → Prop} {a k : Nat} (hD : va_D A (X ++ va_pl S.L (wPF cyI cyO51b95 cyO28f5b S))) (hL : a ∈ S.L) (h : S.K a = 1) (hk : (X ++ va_pl S.L (wPF cyI cyO51b95 cyO28f5b S))[k]? = some (a, wPF cyI cyO51b95 cyO28f5b S a)) (v : Int32) : (X ++ va_pl S.L (wPF cyI cyO51b95 cyO28f5b S)).set k (a, .inr (1, [va_rf (S.O_Member.f_clients a), .int (S.O_Member.f_clientCount a), .int (S.O_Member.f_clientLots a), .int (S.O_Member.f_state a), .int (S.O_Member.f_margin a), .int (S.O_Member.f_share a), .int (S.O_Member.f_room a), .int (S.O_Member.f_gain a), .int (S.O_Member.f_tested a), .int (S.O_Member.f_junior a), .int v, .int (S.O_Member.f_won a), .int (S.O_Member.f_shareAtFailure a)])) = X ++ va_pl S.L (wPF cyI cyO51b95 cyO28f5b { S with O_Member := { S.O_Member with f_assessed := va_up S.O_Member.f_assessed a v } }) := by
  rw [va_pl_set hD hL hk]
  exact congrArg (fun l => X ++ l) (va_pl_congr (wSt_O_Member_f_assessed cyI cyO51b95 cyO28f5b S h v))
theorem wSt_O_Member_f_won (cyI : ClassId) (cyO51b95 : ClassId) (cyO28f5b : ClassId) (S : wPS) {a : Nat} (h : S.K a = 1) (v : Int32) (b : Nat) : va_up (wPF cyI cyO51b95 cyO28f5b S) a (.inr (1, [va_rf (S.O_Member.f_clients a), .int (S.O_Member.f_clientCount a), .int (S.O_Member.f_clientLots a), .int (S.O_Member.f_state a), .int (S.O_Member.f_margin a), .int (S.O_Member.f_share a), .int (S.O_Member.f_room a), .int (S.O_Member.f_gain a), .int (S.O_Member.f_tested a), .int (S.O_Member.f_junior a), .int (S.O_Member.f_assessed a), .int v, .int (S.O_Member.f_shareAtFailure a)])) b = wPF cyI cyO51b95 cyO28f5b { S with O_Member := { S.O_Member with f_won := va_up S.O_Member.f_won a v } } b := by by_cases hb : b = a <;> first | (simp only [wPF, va_up_ne _ _ hb]; done) | (simp only [wPF, va_up, if_neg hb]; done) | simp [wPF, va_re, va_up, va_rf, hb, h]
theorem wPu_O_Member_f_won (cyI : ClassId) (cyO51b95 : ClassId) (cyO28f5b : ClassId) (X : va_W) (S : wPS) {A : Nat → Prop} {a k : Nat} (hD : va_D A (X ++ va_pl S.L (wPF cyI cyO51b95 cyO28f5b S))) (hL : a ∈ S.L) (h : S.K a = 1) (hk : (X ++ va_pl S.L (wPF cyI cyO51b95 cyO28f5b S))[k]? = some (a, wPF cyI cyO51b95 cyO28f5b S a)) (v : Int32) : (X ++ va_pl S.L (wPF cyI cyO51b95 cyO28f5b S)).set k (a, .inr (1, [va_rf (S.O_Member.f_clients a), .int (S.O_Member.f_clientCount a), .int (S.O_Member.f_clientLots a), .int (S.O_Member.f_state a), .int (S.O_Member.f_margin a), .int (S.O_Member.f_share a), .int (S.O_Member.f_room a), .int (S.O_Member.f_gain a), .int (S.O_Member.f_tested a), .int (S.O_Member.f_junior a), .int (S.O_Member.f_assessed a), .int v, .int (S.O_Member.f_shareAtFailure a)])) = X ++ va_pl S.L (wPF cyI cyO51b95 cyO28f5b { S with O_Member := { S.O_Member with f_won := va_up S.O_Member.f_won a v } }) := by
  rw [va_pl_set hD hL hk]
  exact congrArg (fun l => X ++ l) (va_pl_congr (wSt_O_Member_f_won cyI cyO51b95 cyO28f5b S h v))
theorem wSt_O_Member_f_shareAtFailure (cyI : ClassId) (cyO51b95 : ClassId) (cyO28f5b : ClassId) (S : wPS) {a : Nat} (h : S.K a = 1) (v : Int32) (b : Nat) : va_up (wPF cyI cyO51b95 cyO28f5b S) a (.inr (1, [va_rf (S.O_Member.f_clients a), .int (S.O_Member.f_clientCount a), .int (S.O_Member.f_clientLots a), .int (S.O_Member.f_state a), .int (S.O_Member.f_margin a), .int (S.O_Member.f_share a), .int (S.O_Member.f_room a), .int (S.O_Member.f_gain a), .int (S.O_Member.f_tested a), .int (S.O_Member.f_junior a), .int (S.O_Member.f_assessed a), .int (S.O_Member.f_won a), .int v])) b = wPF cyI cyO51b95 cyO28f5b { S with O_Member := { S.O_Member with f_shareAtFailure := va_up S.O_Member.f_shareAtFailure a v } } b := by by_cases hb : b = a <;> first | (simp only [wPF, va_up_ne _ _ hb]; done) | (simp only [wPF, va_up, if_neg hb]; done) | simp [wPF, va_re, va_up, va_rf, hb, h]
theorem wPu_O_Member_f_shareAtFailure (cyI : ClassId) (cyO51b95 : ClassId) (cyO28f5b : ClassId) (X : va_W) (S : wPS) {A : Nat → Prop} {a k : Nat} (hD : va_D A (X ++ va_pl S.L (wPF cyI cyO51b95 cyO28f5b S))) (hL : a ∈ S.L) (h : S.K a = 1) (hk : (X ++ va_pl S.L (wPF cyI cyO51b95 cyO28f5b S))[k]? = some (a, wPF cyI cyO51b95 cyO28f5b S a)) (v : Int32) : (X ++ va_pl S.L (wPF cyI cyO51b95 cyO28f5b S)).set k (a, .inr (1, [va_rf (S.O_Member.f_clients a), .int (S.O_Member.f_clientCount a), .int (S.O_Member.f_clientLots a), .int (S.O_Member.f_state a), .int (S.O_Member.f_margin a), .int (S.O_Member.f_share a), .int (S.O_Member.f_room a), .int (S.O_Member.f_gain a), .int (S.O_Member.f_tested a), .int (S.O_Member.f_junior a), .int (S.O_Member.f_assessed a), .int (S.O_Member.f_won a), .int v])) = X ++ va_pl S.L (wPF cyI cyO51b95 cyO28f5b { S with O_Member := { S.O_Member with f_shareAtFailure := va_up S.O_Member.f_shareAtFailure a v } }) := by
  rw [va_pl_set hD hL hk]
  exact congrArg (fun l => X ++ l) (va_pl_congr (wSt_O_Member_f_shareAtFailure cyI cyO51b95 cyO28f5b S h v))
theorem wNw_O_Member (cyI : ClassId) (cyO51b95 : ClassId) (cyO28f5b : ClassId) (S : wPS) (a b : Nat) : va_up (wPF cyI cyO51b95 cyO28f5b S) a (.inr (1, [.null, .int 0, .int 0, .int 0, .int 0, .int 0, .int 0, .int 0, .int 0, .int 0, .int 0, .int 0, .int 0])) b = wPF cyI cyO51b95 cyO28f5b { S with L := S.L ++ [a], K := va_up S.K a 1, O_Member := { f_clients := va_up S.O_Member.f_clients a none, f_clientCount := va_up S.O_Member.f_clientCount a 0, f_clientLots := va_up S.O_Member.f_clientLots a 0, f_state := va_up S.O_Member.f_state a 0, f_margin := va_up S.O_Member.f_margin a 0, f_share := va_up S.O_Member.f_share a 0, f_room := va_up S.O_Member.f_room a 0, f_gain := va_up S.O_Member.f_gain a 0, f_tested := va_up S.O_Member.f_tested a 0, f_junior := va_up S.O_Member.f_junior a 0, f_assessed := va_up S.O_Member.f_assessed a 0, f_won := va_up S.O_Member.f_won a 0, f_shareAtFailure := va_up S.O_Member.f_shareAtFailure a 0 } } b := by by_cases hb : b = a <;> first | (simp only [wPF, va_up_ne _ _ hb]; done) | (simp only [wPF, va_up, if_neg hb]; done) | simp [wPF, va_re, va_up, va_rf, hb]
theorem wPn_O_Member (cyI : ClassId) (cyO51b95 : ClassId) (cyO28f5b : ClassId) (X : va_W) (S : wPS) {a : Nat} (ha : a ∉ S.L) : (X ++ va_pl S.L (wPF cyI cyO51b95 cyO28f5b S)) ++ [(a, .inr (1, [.null, .int 0, .int 0, .int 0, .int 0, .int 0, .int 0, .int 0, .int 0, .int 0, .int 0, .int 0, .int 0]))] = X ++ va_pl (S.L ++ [a]) (wPF cyI cyO51b95 cyO28f5b { S with L := S.L ++ [a], K := va_up S.K a 1, O_Member := { f_clients := va_up S.O_Member.f_clients a none, f_clientCount := va_up S.O_Member.f_clientCount a 0, f_clientLots := va_up S.O_Member.f_clientLots a 0, f_state := va_up S.O_Member.f_state a 0, f_margin := va_up S.O_Member.f_margin a 0, f_share := va_up S.O_Member.f_share a 0, f_room := va_up S.O_Member.f_room a 0, f_gain := va_up S.O_Member.f_gain a 0, f_tested := va_up S.O_Member.f_tested a 0, f_junior := va_up S.O_Member.f_junior a 0, f_assessed := va_up S.O_Member.f_assessed a 0, f_won := va_up S.O_Member.f_won a 0, f_shareAtFailure := va_up S.O_Member.f_shareAtFailure a 0 } }) := by
  rw [List.append_assoc, va_pl_push ha]
  exact congrArg (fun l => X ++ l) (va_pl_congr (wNw_O_Member cyI cyO51b95 cyO28f5b S a))
theorem wAt_O_Parting (cyI : ClassId) (cyO51b95 : ClassId) (cyO28f5b : ClassId) (S : wPS) {a : Nat} (h : S.K a = 2) : wPF cyI cyO51b95 cyO28f5b S a = .inr (2, [va_rf (S.O_Parting.f_weights a), va_rf (S.O_Parting.f_bounds a), va_rf (S.O_Parting.f_parts a)]) := by simp [wPF, h]
theorem wGt_O_Parting (cyI : ClassId) (cyO51b95 : ClassId) (cyO28f5b : ClassId) (X : va_W) (S : wPS) {a : Nat} (hL : a ∈ S.L) (h : S.K a = 2) : ∃ k : Nat, (X ++ va_pl S.L (wPF cyI cyO51b95 cyO28f5b S))[k]? = some (a, wPF cyI cyO51b95 cyO28f5b S a) ∧ (X ++ va_pl S.L (wPF cyI cyO51b95 cyO28f5b S))[k]? = some (a, .inr (2, [va_rf (S.O_Parting.f_weights a), va_rf (S.O_Parting.f_bounds a), va_rf (S.O_Parting.f_parts a)])) := by
  obtain ⟨k, hk⟩ := va_pl_get (X := X) (f := wPF cyI cyO51b95 cyO28f5b S) hL
  exact ⟨k, hk, hk.trans (congrArg (fun e => some (a, e)) (wAt_O_Parting cyI cyO51b95 cyO28f5b S h))⟩
theorem wSt_O_Parting_f_weights (cyI : ClassId) (cyO51b95 : ClassId) (cyO28f5b : ClassId) (S : wPS) {a : Nat} (h : S.K a = 2) (v : Option Nat) (b : Nat) : va_up (wPF cyI cyO51b95 cyO28f5b S) a (.inr (2, [va_rf v, va_rf (S.O_Parting.f_bounds a), va_rf (S.O_Parting.f_parts a)])) b = wPF cyI cyO51b95 cyO28f5b { S with O_Parting := { S.O_Parting with f_weights := va_up S.O_Parting.f_weights a v } } b := by by_cases hb : b = a <;> first | (simp only [wPF, va_up_ne _ _ hb]; done) | (simp only [wPF, va_up, if_neg hb]; done) | simp [wPF, va_re, va_up, va_rf, hb, h]
theorem wPu_O_Parting_f_weights (cyI : ClassId) (cyO51b95 : ClassId) (cyO28f5b : ClassId) (X : va_W) (S : wPS) {A : Nat → Prop} {a k : Nat} (hD : va_D A (X ++ va_pl S.L (wPF cyI cyO51b95 cyO28f5b S))) (hL : a ∈ S.L) (h : S.K a = 2) (hk : (X ++ va_pl S.L (wPF cyI cyO51b95 cyO28f5b S))[k]? = some (a, wPF cyI cyO51b95 cyO28f5b S a)) (v : Option Nat) : (X ++ va_pl S.L (wPF cyI cyO51b95 cyO28f5b S)).set k (a, .inr (2, [va_rf v, va_rf (S.O_Parting.f_bounds a), va_rf (S.O_Parting.f_parts a)])) = X ++ va_pl S.L (wPF cyI cyO51b95 cyO28f5b { S with O_Parting := { S.O_Parting with f_weights := va_up S.O_Parting.f_weights a v } }) := by
  rw [va_pl_set hD hL hk]
  exact congrArg (fun l => X ++ l) (va_pl_congr (wSt_O_Parting_f_weights cyI cyO51b95 cyO28f5b S h v))
theorem wSt_O_Parting_f_bounds (cyI : ClassId) (cyO51b95 : ClassId) (cyO28f5b : ClassId) (S : wPS) {a : Nat} (h : S.K a = 2) (v : Option Nat) (b : Nat) : va_up (wPF cyI cyO51b95 cyO28f5b S) a (.inr (2, [va_rf (S.O_Parting.f_weights a), va_rf v, va_rf (S.O_Parting.f_parts a)])) b = wPF cyI cyO51b95 cyO28f5b { S with O_Parting := { S.O_Parting with f_bounds := va_up S.O_Parting.f_bounds a v } } b := by by_cases hb : b = a <;> first | (simp only [wPF, va_up_ne _ _ hb]; done) | (simp only [wPF, va_up, if_neg hb]; done) | simp [wPF, va_re, va_up, va_rf, hb, h]
theorem wPu_O_Parting_f_bounds (cyI : ClassId) (cyO51b95 : ClassId) (cyO28f5b : ClassId) (X : va_W) (S : wPS) {A : Nat → Prop} {a k : Nat} (hD : va_D A (X ++ va_pl S.L (wPF cyI cyO51b95 cyO28f5b S))) (hL : a ∈ S.L) (h : S.K a = 2) (hk : (X ++ va_pl S.L (wPF cyI cyO51b95 cyO28f5b S))[k]? = some (a, wPF cyI cyO51b95 cyO28f5b S a)) (v : Option Nat) : (X ++ va_pl S.L (wPF cyI cyO51b95 cyO28f5b S)).set k (a, .inr (2, [va_rf (S.O_Parting.f_weights a), va_rf v, va_rf (S.O_Parting.f_parts a)])) = X ++ va_pl S.L (wPF cyI cyO51b95 cyO28f5b { S with O_Parting := { S.O_Parting with f_bounds := va_up S.O_Parting.f_bounds a v } }) := by
  rw [va_pl_set hD hL hk]
  exact congrArg (fun l => X ++ l) (va_pl_congr (wSt_O_Parting_f_bounds cyI cyO51b95 cyO28f5b S h v))
theorem wSt_O_Parting_f_parts (cyI : ClassId) (cyO51b95 : ClassId) (cyO28f5b : ClassId) (S : wPS) {a : Nat} (h : S.K a = 2) (v : Option Nat) (b : Nat) : va_up (wPF cyI cyO51b95 cyO28f5b S) a (.inr (2, [va_rf (S.O_Parting.f_weights a), va_rf (S.O_Parting.f_bounds a), va_rf v])) b = wPF cyI cyO51b95 cyO28f5b { S with O_Parting := { S.O_Parting with f_parts := va_up S.O_Parting.f_parts a v } } b := by by_cases hb : b = a <;> first | (simp only [wPF, va_up_ne _ _ hb]; done) | (simp only [wPF, va_up, if_neg hb]; done) | simp [wPF, va_re, va_up, va_rf, hb, h]
theorem wPu_O_Parting_f_parts (cyI : ClassId) (cyO51b95 : ClassId) (cyO28f5b : ClassId) (X : va_W) (S : wPS) {A : Nat → Prop} {a k : Nat} (hD : va_D A (X ++ va_pl S.L (wPF cyI cyO51b95 cyO28f5b S))) (hL : a ∈ S.L) (h : S.K a = 2) (hk : (X ++ va_pl S.L (wPF cyI cyO51b95 cyO28f5b S))[k]? = some (a, wPF cyI cyO51b95 cyO28f5b S a)) (v : Option Nat) : (X ++ va_pl S.L (wPF cyI cyO51b95 cyO28f5b S)).set k (a, .inr (2, [va_rf (S.O_Parting.f_weights a), va_rf (S.O_Parting.f_bounds a), va_rf v])) = X ++ va_pl S.L (wPF cyI cyO51b95 cyO28f5b { S with O_Parting := { S.O_Parting with f_parts := va_up S.O_Parting.f_parts a v } }) := by
  rw [va_pl_set hD hL hk]
  exact congrArg (fun l => X ++ l) (va_pl_congr (wSt_O_Parting_f_parts cyI cyO51b95 cyO28f5b S h v))
theorem wNw_O_Parting (cyI : ClassId) (cyO51b95 : ClassId) (cyO28f5b : ClassId) (S : wPS) (a b : Nat) : va_up (wPF cyI cyO51b95 cyO28f5b S) a (.inr (2, [.null, .null, .null])) b = wPF cyI cyO51b95 cyO28f5b { S with L := S.L ++ [a], K := va_up S.K a 2, O_Parting := { f_weights := va_up S.O_Parting.f_weights a none, f_bounds := va_up S.O_Parting.f_bounds a none, f_parts := va_up S.O_Parting.f_parts a none } } b := by by_cases hb : b = a <;> first | (simp only [wPF, va_up_ne _ _ hb]; done) | (simp only [wPF, va_up, if_neg hb]; done) | simp [wPF, va_re, va_up, va_rf, hb]
theorem wPn_O_Parting (cyI : ClassId) (cyO51b95 : ClassId) (cyO28f5b : ClassId) (X : va_W) (S : wPS) {a : Nat} (ha : a ∉ S.L) : (X ++ va_pl S.L (wPF cyI cyO51b95 cyO28f5b S)) ++ [(a, .inr (2, [.null, .null, .null]))] = X ++ va_pl (S.L ++ [a]) (wPF cyI cyO51b95 cyO28f5b { S with L := S.L ++ [a], K := va_up S.K a 2, O_Parting := { f_weights := va_up S.O_Parting.f_weights a none, f_bounds := va_up S.O_Parting.f_bounds a none, f_parts := va_up S.O_Parting.f_parts a none } }) := by
  rw [List.append_assoc, va_pl_push ha]
  exact congrArg (fun l => X ++ l) (va_pl_congr (wNw_O_Parting cyI cyO51b95 cyO28f5b S a))
theorem wAt_O_DefaultFund (cyI : ClassId) (cyO51b95 : ClassId) (cyO28f5b : ClassId) (S : wPS) {a : Nat} (h : S.K a = 3) : wPF cyI cyO51b95 cyO28f5b S a = .inr (3, [va_rf (S.O_DefaultFund.f_members a), va_rf (S.O_DefaultFund.f_auction a), va_rf (S.O_DefaultFund.f_parting a), .int (S.O_DefaultFund.f_count a), .int (S.O_DefaultFund.f_capital a), .int (S.O_DefaultFund.f_loss a), .int (S.O_DefaultFund.f_uncovered a), .int (S.O_DefaultFund.f_failing a)]) := by simp [wPF, h]
theorem wGt_O_DefaultFund (cyI : ClassId) (cyO51b95 : ClassId) (cyO28f5b : ClassId) (X : va_W) (S : wPS) {a : Nat} (hL : a ∈ S.L) (h : S.K a = 3) : ∃ k : Nat, (X ++ va_pl S.L (wPF cyI cyO51b95 cyO28f5b S))[k]? = some (a, wPF cyI cyO51b95 cyO28f5b S a) ∧ (X ++ va_pl S.L (wPF cyI cyO51b95 cyO28f5b S))[k]? = some (a, .inr (3, [va_rf (S.O_DefaultFund.f_members a), va_rf (S.O_DefaultFund.f_auction a), va_rf (S.O_DefaultFund.f_parting a), .int (S.O_DefaultFund.f_count a), .int (S.O_DefaultFund.f_capital a), .int (S.O_DefaultFund.f_loss a), .int (S.O_DefaultFund.f_uncovered a), .int (S.O_DefaultFund.f_failing a)])) := by
  obtain ⟨k, hk⟩ := va_pl_get (X := X) (f := wPF cyI cyO51b95 cyO28f5b S) hL
  exact ⟨k, hk, hk.trans (congrArg (fun e => some (a, e)) (wAt_O_DefaultFund cyI cyO51b95 cyO28f5b S h))⟩
theorem wSt_O_DefaultFund_f_members (cyI : ClassId) (cyO51b95 : ClassId) (cyO28f5b : ClassId) (S : wPS) {a : Nat} (h : S.K a = 3) (v : Option Nat) (b : Nat) : va_up (wPF cyI cyO51b95 cyO28f5b S) a (.inr (3, [va_rf v, va_rf (S.O_DefaultFund.f_auction a), va_rf (S.O_DefaultFund.f_parting a), .int (S.O_DefaultFund.f_count a), .int (S.O_DefaultFund.f_capital a), .int (S.O_DefaultFund.f_loss a), .int (S.O_DefaultFund.f_uncovered a), .int (S.O_DefaultFund.f_failing a)])) b = wPF cyI cyO51b95 cyO28f5b { S with O_DefaultFund := { S.O_DefaultFund with f_members := va_up S.O_DefaultFund.f_members a v } } b := by by_cases hb : b = a <;> first | (simp only [wPF, va_up_ne _ _ hb]; done) | (simp only [wPF, va_up, if_neg hb]; done) | simp [wPF, va_re, va_up, va_rf, hb, h]
theorem wPu_O_DefaultFund_f_members (cyI : ClassId) (cyO51b95 : ClassId) (cyO28f5b : ClassId) (X : va_W) (S : wPS) {A : Nat → Prop} {a k : Nat} (hD : va_D A (X ++ va_pl S.L (wPF cyI cyO51b95 cyO28f5b S))) (hL : a ∈ S.L) (h : S.K a = 3) (hk : (X ++ va_pl S.L (wPF cyI cyO51b95 cyO28f5b S))[k]? = some (a, wPF cyI cyO51b95 cyO28f5b S a)) (v : Option Nat) : (X ++ va_pl S.L (wPF cyI cyO51b95 cyO28f5b S)).set k (a, .inr (3, [va_rf v, va_rf (S.O_DefaultFund.f_auction a), va_rf (S.O_DefaultFund.f_parting a), .int (S.O_DefaultFund.f_count a), .int (S.O_DefaultFund.f_capital a), .int (S.O_DefaultFund.f_loss a), .int (S.O_DefaultFund.f_uncovered a), .int (S.O_DefaultFund.f_failing a)])) = X ++ va_pl S.L (wPF cyI cyO51b95 cyO28f5b { S with O_DefaultFund := { S.O_DefaultFund with f_members := va_up S.O_DefaultFund.f_members a v } }) := by
  rw [va_pl_set hD hL hk]
  exact congrArg (fun l => X ++ l) (va_pl_congr (wSt_O_DefaultFund_f_members cyI cyO51b95 cyO28f5b S h v))
theorem wSt_O_DefaultFund_f_auction (cyI : ClassId) (cyO51b95 : ClassId) (cyO28f5b : ClassId) (S : wPS) {a : Nat} (h : S.K a = 3) (v : Option Nat) (b : Nat) : va_up (wPF cyI cyO51b95 cyO28f5b S) a (.inr (3, [va_rf (S.O_DefaultFund.f_members a), va_rf v, va_rf (S.O_DefaultFund.f_parting a), .int (S.O_DefaultFund.f_count a), .int (S.O_DefaultFund.f_capital a), .int (S.O_DefaultFund.f_loss a), .int (S.O_DefaultFund.f_uncovered a), .int (S.O_DefaultFund.f_failing a)])) b = wPF cyI cyO51b95 cyO28f5b { S with O_DefaultFund := { S.O_DefaultFund with f_auction := va_up S.O_DefaultFund.f_auction a v } } b := by by_cases hb : b = a <;> first | (simp only [wPF, va_up_ne _ _ hb]; done) | (simp only [wPF, va_up, if_neg hb]; done) | simp [wPF, va_re, va_up, va_rf, hb, h]
theorem wPu_O_DefaultFund_f_auction (cyI : ClassId) (cyO51b95 : ClassId) (cyO28f5b : ClassId) (X : va_W) (S : wPS) {A : Nat → Prop} {a k : Nat} (hD : va_D A (X ++ va_pl S.L (wPF cyI cyO51b95 cyO28f5b S))) (hL : a ∈ S.L) (h : S.K a = 3) (hk : (X ++ va_pl S.L (wPF cyI cyO51b95 cyO28f5b S))[k]? = some (a, wPF cyI cyO51b95 cyO28f5b S a)) (v : Option Nat) : (X ++ va_pl S.L (wPF cyI cyO51b95 cyO28f5b S)).set k (a, .inr (3, [va_rf (S.O_DefaultFund.f_members a), va_rf v, va_rf (S.O_DefaultFund.f_parting a), .int (S.O_DefaultFund.f_count a), .int (S.O_DefaultFund.f_capital a), .int (S.O_DefaultFund.f_loss a), .int (S.O_DefaultFund.f_uncovered a), .int (S.O_DefaultFund.f_failing a)])) = X ++ va_pl S.L (wPF cyI cyO51b95 cyO28f5b { S with O_DefaultFund := { S.O_DefaultFund with f_auction := va_up S.O_DefaultFund.f_auction a v } }) := by
  rw [va_pl_set hD hL hk]
  exact congrArg (fun l => X ++ l) (va_pl_congr (wSt_O_DefaultFund_f_auction cyI cyO51b95 cyO28f5b S h v))
theorem wSt_O_DefaultFund_f_parting (cyI : ClassId) (cyO51b95 : ClassId) (cyO28f5b : ClassId) (S : wPS) {a : Nat} (h : S.K a = 3) (v : Option Nat) (b : Nat) : va_up (wPF cyI cyO51b95 cyO28f5b S) a (.inr (3, [va_rf (S.O_DefaultFund.f_members a), va_rf (S.O_DefaultFund.f_auction a), va_rf v, .int (S.O_DefaultFund.f_count a), .int (S.O_DefaultFund.f_capital a), .int (S.O_DefaultFund.f_loss a), .int (S.O_DefaultFund.f_uncovered a), .int (S.O_DefaultFund.f_failing a)])) b = wPF cyI cyO51b95 cyO28f5b { S with O_DefaultFund := { S.O_DefaultFund with f_parting := va_up S.O_DefaultFund.f_parting a v } } b := by by_cases hb : b = a <;> first | (simp only [wPF, va_up_ne _ _ hb]; done) | (simp only [wPF, va_up, if_neg hb]; done) | simp [wPF, va_re, va_up, va_rf, hb, h]
theorem wPu_O_DefaultFund_f_parting (cyI : ClassId) (cyO51b95 : ClassId) (cyO28f5b : ClassId) (X : va_W) (S : wPS) {A : Nat → Prop} {a k : Nat} (hD : va_D A (X ++ va_pl S.L (wPF cyI cyO51b95 cyO28f5b S))) (hL : a ∈ S.L) (h : S.K a = 3) (hk : (X ++ va_pl S.L (wPF cyI cyO51b95 cyO28f5b S))[k]? = some (a, wPF cyI cyO51b95 cyO28f5b S a)) (v : Option Nat) : (X ++ va_pl S.L (wPF cyI cyO51b95 cyO28f5b S)).set k (a, .inr (3, [va_rf (S.O_DefaultFund.f_members a), va_rf (S.O_DefaultFund.f_auction a), va_rf v, .int (S.O_DefaultFund.f_count a), .int (S.O_DefaultFund.f_capital a), .int (S.O_DefaultFund.f_loss a), .int (S.O_DefaultFund.f_uncovered a), .int (S.O_DefaultFund.f_failing a)])) = X ++ va_pl S.L (wPF cyI cyO51b95 cyO28f5b { S with O_DefaultFund := { S.O_DefaultFund with f_parting := va_up S.O_DefaultFund.f_parting a v } }) := by
  rw [va_pl_set hD hL hk]
  exact congrArg (fun l => X ++ l) (va_pl_congr (wSt_O_DefaultFund_f_parting cyI cyO51b95 cyO28f5b S h v))
theorem wSt_O_DefaultFund_f_count (cyI : ClassId) (cyO51b95 : ClassId) (cyO28f5b : ClassId) (S : wPS) {a : Nat} (h : S.K a = 3) (v : Int32) (b : Nat) : va_up (wPF cyI cyO51b95 cyO28f5b S) a (.inr (3, [va_rf (S.O_DefaultFund.f_members a), va_rf (S.O_DefaultFund.f_auction a), va_rf (S.O_DefaultFund.f_parting a), .int v, .int (S.O_DefaultFund.f_capital a), .int (S.O_DefaultFund.f_loss a), .int (S.O_DefaultFund.f_uncovered a), .int (S.O_DefaultFund.f_failing a)])) b = wPF cyI cyO51b95 cyO28f5b { S with O_DefaultFund := { S.O_DefaultFund with f_count := va_up S.O_DefaultFund.f_count a v } } b := by by_cases hb : b = a <;> first | (simp only [wPF, va_up_ne _ _ hb]; done) | (simp only [wPF, va_up, if_neg hb]; done) | simp [wPF, va_re, va_up, va_rf, hb, h]
theorem wPu_O_DefaultFund_f_count (cyI : ClassId) (cyO51b95 : ClassId) (cyO28f5b : ClassId) (X : va_W) (S : wPS) {A : Nat → Prop} {a k : Nat} (hD : va_D A (X ++ va_pl S.L (wPF cyI cyO51b95 cyO28f5b S))) (hL : a ∈ S.L) (h : S.K a = 3) (hk : (X ++ va_pl S.L (wPF cyI cyO51b95 cyO28f5b S))[k]? = some (a, wPF cyI cyO51b95 cyO28f5b S a)) (v : Int32) : (X ++ va_pl S.L (wPF cyI cyO51b95 cyO28f5b S)).set k (a, .inr (3, [va_rf (S.O_DefaultFund.f_members a), va_rf (S.O_DefaultFund.f_auction a), va_rf (S.O_DefaultFund.f_parting a), .int v, .int (S.O_DefaultFund.f_capital a), .int (S.O_DefaultFund.f_loss a), .int (S.O_DefaultFund.f_uncovered a), .int (S.O_DefaultFund.f_failing a)])) = X ++ va_pl S.L (wPF cyI cyO51b95 cyO28f5b { S with O_DefaultFund := { S.O_DefaultFund with f_count := va_up S.O_DefaultFund.f_count a v } }) := by
  rw [va_pl_set hD hL hk]
  exact congrArg (fun l => X ++ l) (va_pl_congr (wSt_O_DefaultFund_f_count cyI cyO51b95 cyO28f5b S h v))
theorem wSt_O_DefaultFund_f_capital (cyI : ClassId) (cyO51b95 : ClassId) (cyO28f5b : ClassId) (S : wPS) {a : Nat} (h : S.K a = 3) (v : Int32) (b : Nat) : va_up (wPF cyI cyO51b95 cyO28f5b S) a (.inr (3, [va_rf (S.O_DefaultFund.f_members a), va_rf (S.O_DefaultFund.f_auction a), va_rf (S.O_DefaultFund.f_parting a), .int (S.O_DefaultFund.f_count a), .int v, .int (S.O_DefaultFund.f_loss a), .int (S.O_DefaultFund.f_uncovered a), .int (S.O_DefaultFund.f_failing a)])) b = wPF cyI cyO51b95 cyO28f5b { S with O_DefaultFund := { S.O_DefaultFund with f_capital := va_up S.O_DefaultFund.f_capital a v } } b := by by_cases hb : b = a <;> first | (simp only [wPF, va_up_ne _ _ hb]; done) | (simp only [wPF, va_up, if_neg hb]; done) | simp [wPF, va_re, va_up, va_rf, hb, h]
theorem wPu_O_DefaultFund_f_capital (cyI : ClassId) (cyO51b95 : ClassId) (cyO28f5b : ClassId) (X : va_W) (S : wPS) {A : Nat → Prop} {a k : Nat} (hD : va_D A (X ++ va_pl S.L (wPF cyI cyO51b95 cyO28f5b S))) (hL : a ∈ S.L) (h : S.K a = 3) (hk : (X ++ va_pl S.L (wPF cyI cyO51b95 cyO28f5b S))[k]? = some (a, wPF cyI cyO51b95 cyO28f5b S a)) (v : Int32) : (X ++ va_pl S.L (wPF cyI cyO51b95 cyO28f5b S)).set k (a, .inr (3, [va_rf (S.O_DefaultFund.f_members a), va_rf (S.O_DefaultFund.f_auction a), va_rf (S.O_DefaultFund.f_parting a), .int (S.O_DefaultFund.f_count a), .int v, .int (S.O_DefaultFund.f_loss a), .int (S.O_DefaultFund.f_uncovered a), .int (S.O_DefaultFund.f_failing a)])) = X ++ va_pl S.L (wPF cyI cyO51b95 cyO28f5b { S with O_DefaultFund := { S.O_DefaultFund with f_capital := va_up S.O_DefaultFund.f_capital a v } }) := by
  rw [va_pl_set hD hL hk]
  exact congrArg (fun l => X ++ l) (va_pl_congr (wSt_O_DefaultFund_f_capital cyI cyO51b95 cyO28f5b S h v))
theorem wSt_O_DefaultFund_f_loss (cyI : ClassId) (cyO51b95 : ClassId) (cyO28f5b : ClassId) (S : wPS) {a : Nat} (h : S.K a = 3) (v : Int32) (b : Nat) : va_up (wPF cyI cyO51b95 cyO28f5b S) a (.inr (3, [va_rf (S.O_DefaultFund.f_members a), va_rf (S.O_DefaultFund.f_auction a), va_rf (S.O_DefaultFund.f_parting a), .int (S.O_DefaultFund.f_count a), .int (S.O_DefaultFund.f_capital a), .int v, .int (S.O_DefaultFund.f_uncovered a), .int (S.O_DefaultFund.f_failing a)])) b = wPF cyI cyO51b95 cyO28f5b { S with O_DefaultFund := { S.O_DefaultFund with f_loss := va_up S.O_DefaultFund.f_loss a v } } b := by by_cases hb : b = a <;> first | (simp only [wPF, va_up_ne _ _ hb]; done) | (simp only [wPF, va_up, if_neg hb]; done) | simp [wPF, va_re, va_up, va_rf, hb, h]
theorem wPu_O_DefaultFund_f_loss (cyI : ClassId) (cyO51b95 : ClassId) (cyO28f5b : ClassId) (X : va_W) (S : wPS) {A : Nat → Prop} {a k : Nat} (hD : va_D A (X ++ va_pl S.L (wPF cyI cyO51b95 cyO28f5b S))) (hL : a ∈ S.L) (h : S.K a = 3) (hk : (X ++ va_pl S.L (wPF cyI cyO51b95 cyO28f5b S))[k]? = some (a, wPF cyI cyO51b95 cyO28f5b S a)) (v : Int32) : (X ++ va_pl S.L (wPF cyI cyO51b95 cyO28f5b S)).set k (a, .inr (3, [va_rf (S.O_DefaultFund.f_members a), va_rf (S.O_DefaultFund.f_auction a), va_rf (S.O_DefaultFund.f_parting a), .int (S.O_DefaultFund.f_count a), .int (S.O_DefaultFund.f_capital a), .int v, .int (S.O_DefaultFund.f_uncovered a), .int (S.O_DefaultFund.f_failing a)])) = X ++ va_pl S.L (wPF cyI cyO51b95 cyO28f5b { S with O_DefaultFund := { S.O_DefaultFund with f_loss := va_up S.O_DefaultFund.f_loss a v } }) := by
  rw [va_pl_set hD hL hk]
  exact congrArg (fun l => X ++ l) (va_pl_congr (wSt_O_DefaultFund_f_loss cyI cyO51b95 cyO28f5b S h v))
theorem wSt_O_DefaultFund_f_uncovered (cyI : ClassId) (cyO51b95 : ClassId) (cyO28f5b : ClassId) (S : wPS) {a : Nat} (h : S.K a = 3) (v : Int32) (b : Nat) : va_up (wPF cyI cyO51b95 cyO28f5b S) a (.inr (3, [va_rf (S.O_DefaultFund.f_members a), va_rf (S.O_DefaultFund.f_auction a), va_rf (S.O_DefaultFund.f_parting a), .int (S.O_DefaultFund.f_count a), .int (S.O_DefaultFund.f_capital a), .int (S.O_DefaultFund.f_loss a), .int v, .int (S.O_DefaultFund.f_failing a)])) b = wPF cyI cyO51b95 cyO28f5b { S with O_DefaultFund := { S.O_DefaultFund with f_uncovered := va_up S.O_DefaultFund.f_uncovered a v } } b := by by_cases hb : b = a <;> first | (simp only [wPF, va_up_ne _ _ hb]; done) | (simp only [wPF, va_up, if_neg hb]; done) | simp [wPF, va_re, va_up, va_rf, hb, h]
theorem wPu_O_DefaultFund_f_uncovered (cyI : ClassId) (cyO51b95 : ClassId) (cyO28f5b : ClassId) (X : va_W) (S : wPS) {A : Nat → Prop} {a k : Nat} (hD : va_D A (X ++ va_pl S.L (wPF cyI cyO51b95 cyO28f5b S))) (hL : a ∈ S.L) (h : S.K a = 3) (hk : (X ++ va_pl S.L (wPF cyI cyO51b95 cyO28f5b S))[k]? = some (a, wPF cyI cyO51b95 cyO28f5b S a)) (v : Int32) : (X ++ va_pl S.L (wPF cyI cyO51b95 cyO28f5b S)).set k (a, .inr (3, [va_rf (S.O_DefaultFund.f_members a), va_rf (S.O_DefaultFund.f_auction a), va_rf (S.O_DefaultFund.f_parting a), .int (S.O_DefaultFund.f_count a), .int (S.O_DefaultFund.f_capital a), .int (S.O_DefaultFund.f_loss a), .int v, .int (S.O_DefaultFund.f_failing a)])) = X ++ va_pl S.L (wPF cyI cyO51b95 cyO28f5b { S with O_DefaultFund := { S.O_DefaultFund with f_uncovered := va_up S.O_DefaultFund.f_uncovered a v } }) := by
  rw [va_pl_set hD hL hk]
  exact congrArg (fun l => X ++ l) (va_pl_congr (wSt_O_DefaultFund_f_uncovered cyI cyO51b95 cyO28f5b S h v))
theorem wSt_O_DefaultFund_f_failing (cyI : ClassId) (cyO51b95 : ClassId) (cyO28f5b : ClassId) (S : wPS) {a : Nat} (h : S.K a = 3) (v : Int32) (b : Nat) : va_up (wPF cyI cyO51b95 cyO28f5b S) a (.inr (3, [va_rf (S.O_DefaultFund.f_members a), va_rf (S.O_DefaultFund.f_auction a), va_rf (S.O_DefaultFund.f_parting a), .int (S.O_DefaultFund.f_count a), .int (S.O_DefaultFund.f_capital a), .int (S.O_DefaultFund.f_loss a), .int (S.O_DefaultFund.f_uncovered a), .int v])) b = wPF cyI cyO51b95 cyO28f5b { S with O_DefaultFund := { S.O_DefaultFund with f_failing := va_up S.O_DefaultFund.f_failing a v } } b := by by_cases hb : b = a <;> first | (simp only [wPF, va_up_ne _ _ hb]; done) | (simp only [wPF, va_up, if_neg hb]; done) | simp [wPF, va_re, va_up, va_rf, hb, h]
theorem wPu_O_DefaultFund_f_failing (cyI : ClassId) (cyO51b95 : ClassId) (cyO28f5b : ClassId) (X : va_W) (S : wPS) {A : Nat → Prop} {a k : Nat} (hD : va_D A (X ++ va_pl S.L (wPF cyI cyO51b95 cyO28f5b S))) (hL : a ∈ S.L) (h : S.K a = 3) (hk : (X ++ va_pl S.L (wPF cyI cyO51b95 cyO28f5b S))[k]? = some (a, wPF cyI cyO51b95 cyO28f5b S a)) (v : Int32) : (X ++ va_pl S.L (wPF cyI cyO51b95 cyO28f5b S)).set k (a, .inr (3, [va_rf (S.O_DefaultFund.f_members a), va_rf (S.O_DefaultFund.f_auction a), va_rf (S.O_DefaultFund.f_parting a), .int (S.O_DefaultFund.f_count a), .int (S.O_DefaultFund.f_capital a), .int (S.O_DefaultFund.f_loss a), .int (S.O_DefaultFund.f_uncovered a), .int v])) = X ++ va_pl S.L (wPF cyI cyO51b95 cyO28f5b { S with O_DefaultFund := { S.O_DefaultFund with f_failing := va_up S.O_DefaultFund.f_failing a v } }) := by
  rw [va_pl_set hD hL hk]
  exact congrArg (fun l => X ++ l) (va_pl_congr (wSt_O_DefaultFund_f_failing cyI cyO51b95 cyO28f5b S h v))
theorem wNw_O_DefaultFund (cyI : ClassId) (cyO51b95 : ClassId) (cyO28f5b : ClassId) (S : wPS) (a b : Nat) : va_up (wPF cyI cyO51b95 cyO28f5b S) a (.inr (3, [.null, .null, .null, .int 0, .int 0, .int 0, .int 0, .int 0])) b = wPF cyI cyO51b95 cyO28f5b { S with L := S.L ++ [a], K := va_up S.K a 3, O_DefaultFund := { f_members := va_up S.O_DefaultFund.f_members a none, f_auction := va_up S.O_DefaultFund.f_auction a none, f_parting := va_up S.O_DefaultFund.f_parting a none, f_count := va_up S.O_DefaultFund.f_count a 0, f_capital := va_up S.O_DefaultFund.f_capital a 0, f_loss := va_up S.O_DefaultFund.f_loss a 0, f_uncovered := va_up S.O_DefaultFund.f_uncovered a 0, f_failing := va_up S.O_DefaultFund.f_failing a 0 } } b := by by_cases hb : b = a <;> first | (simp only [wPF, va_up_ne _ _ hb]; done) | (simp only [wPF, va_up, if_neg hb]; done) | simp [wPF, va_re, va_up, va_rf, hb]
theorem wPn_O_DefaultFund (cyI : ClassId) (cyO51b95 : ClassId) (cyO28f5b : ClassId) (X : va_W) (S : wPS) {a : Nat} (ha : a ∉ S.L) : (X ++ va_pl S.L (wPF cyI cyO51b95 cyO28f5b S)) ++ [(a, .inr (3, [.null, .null, .null, .int 0, .int 0, .int 0, .int 0, .int 0]))] = X ++ va_pl (S.L ++ [a]) (wPF cyI cyO51b95 cyO28f5b { S with L := S.L ++ [a], K := va_up S.K a 3, O_DefaultFund := { f_members := va_up S.O_DefaultFund.f_members a none, f_auction := va_up S.O_DefaultFund.f_auction a none, f_parting := va_up S.O_DefaultFund.f_parting a none, f_count := va_up S.O_DefaultFund.f_count a 0, f_capital := va_up S.O_DefaultFund.f_capital a 0, f_loss := va_up S.O_DefaultFund.f_loss a 0, f_uncovered := va_up S.O_DefaultFund.f_uncovered a 0, f_failing := va_up S.O_DefaultFund.f_failing a 0 } }) := by
  rw [List.append_assoc, va_pl_push ha]
  exact congrArg (fun l => X ++ l) (va_pl_congr (wNw_O_DefaultFund cyI cyO51b95 cyO28f5b S a))
theorem wAt_O_DefaultFundModel (cyI : ClassId) (cyO51b95 : ClassId) (cyO28f5b : ClassId) (S : wPS) {a : Nat} (h : S.K a = 4) : wPF cyI cyO51b95 cyO28f5b S a = .inr (4, [va_rf (S.O_DefaultFundModel.f_margins a), va_rf (S.O_DefaultFundModel.f_sharesOf a), va_rf (S.O_DefaultFundModel.f_rooms a), va_rf (S.O_DefaultFundModel.f_gains a), va_rf (S.O_DefaultFundModel.f_tested a), va_rf (S.O_DefaultFundModel.f_states a), va_rf (S.O_DefaultFundModel.f_juniors a), va_rf (S.O_DefaultFundModel.f_assessedBy a), va_rf (S.O_DefaultFundModel.f_wonBy a), .int (S.O_DefaultFundModel.f_many a), va_rf (S.O_DefaultFundModel.f_owners a), va_rf (S.O_DefaultFundModel.f_lotsOf a), va_rf (S.O_DefaultFundModel.f_cameAt a), .int (S.O_DefaultFundModel.f_came a), .int (S.O_DefaultFundModel.f_clients a), .int (S.O_DefaultFundModel.f_capitalNow a), .int (S.O_DefaultFundModel.f_lossNow a), .int (S.O_DefaultFundModel.f_uncoveredNow a), .int (S.O_DefaultFundModel.f_failed a), .int (S.O_DefaultFundModel.f_book a), va_rf (S.O_DefaultFundModel.f_bids a), va_rf (S.O_DefaultFundModel.f_sharesThen a), va_rf (S.O_DefaultFundModel.f_weights a), va_rf (S.O_DefaultFundModel.f_bounds a), va_rf (S.O_DefaultFundModel.f_parts a), .int (S.O_DefaultFundModel.f_thrown a)]) := by simp [wPF, h]
theorem wGt_O_DefaultFundModel (cyI : ClassId) (cyO51b95 : ClassId) (cyO28f5b : ClassId) (X : va_W) (S : wPS) {a : Nat} (hL : a ∈ S.L) (h : S.K a = 4) : ∃ k : Nat, (X ++ va_pl S.L (wPF cyI cyO51b95 cyO28f5b S))[k]? = some (a, wPF cyI cyO51b95 cyO28f5b S a) ∧ (X ++ va_pl S.L (wPF cyI cyO51b95 cyO28f5b S))[k]? = some (a, .inr (4, [va_rf (S.O_DefaultFundModel.f_margins a), va_rf (S.O_DefaultFundModel.f_sharesOf a), va_rf (S.O_DefaultFundModel.f_rooms a), va_rf (S.O_DefaultFundModel.f_gains a), va_rf (S.O_DefaultFundModel.f_tested a), va_rf (S.O_DefaultFundModel.f_states a), va_rf (S.O_DefaultFundModel.f_juniors a), va_rf (S.O_DefaultFundModel.f_assessedBy a), va_rf (S.O_DefaultFundModel.f_wonBy a), .int (S.O_DefaultFundModel.f_many a), va_rf (S.O_DefaultFundModel.f_owners a), va_rf (S.O_DefaultFundModel.f_lotsOf a), va_rf (S.O_DefaultFundModel.f_cameAt a), .int (S.O_DefaultFundModel.f_came a), .int (S.O_DefaultFundModel.f_clients a), .int (S.O_DefaultFundModel.f_capitalNow a), .int (S.O_DefaultFundModel.f_lossNow a), .int (S.O_DefaultFundModel.f_uncoveredNow a), .int (S.O_DefaultFundModel.f_failed a), .int (S.O_DefaultFundModel.f_book a), va_rf (S.O_DefaultFundModel.f_bids a), va_rf (S.O_DefaultFundModel.f_sharesThen a), va_rf (S.O_DefaultFundModel.f_weights a), va_rf (S.O_DefaultFundModel.f_bounds a), va_rf (S.O_DefaultFundModel.f_parts a), .int (S.O_DefaultFundModel.f_thrown a)])) := by
  obtain ⟨k, hk⟩ := va_pl_get (X := X) (f := wPF cyI cyO51b95 cyO28f5b S) hL
  exact ⟨k, hk, hk.trans (congrArg (fun e => some (a, e)) (wAt_O_DefaultFundModel cyI cyO51b95 cyO28f5b S h))⟩
theorem wSt_O_DefaultFundModel_f_margins (cyI : ClassId) (cyO51b95 : ClassId) (cyO28f5b : ClassId) (S : wPS) {a : Nat} (h : S.K a = 4) (v : Option Nat) (b : Nat) : va_up (wPF cyI cyO51b95 cyO28f5b S) a (.inr (4, [va_rf v, va_rf (S.O_DefaultFundModel.f_sharesOf a), va_rf (S.O_DefaultFundModel.f_rooms a), va_rf (S.O_DefaultFundModel.f_gains a), va_rf (S.O_DefaultFundModel.f_tested a), va_rf (S.O_DefaultFundModel.f_states a), va_rf (S.O_DefaultFundModel.f_juniors a), va_rf (S.O_DefaultFundModel.f_assessedBy a), va_rf (S.O_DefaultFundModel.f_wonBy a), .int (S.O_DefaultFundModel.f_many a), va_rf (S.O_DefaultFundModel.f_owners a), va_rf (S.O_DefaultFundModel.f_lotsOf a), va_rf (S.O_DefaultFundModel.f_cameAt a), .int (S.O_DefaultFundModel.f_came a), .int (S.O_DefaultFundModel.f_clients a), .int (S.O_DefaultFundModel.f_capitalNow a), .int (S.O_DefaultFundModel.f_lossNow a), .int (S.O_DefaultFundModel.f_uncoveredNow a), .int (S.O_DefaultFundModel.f_failed a), .int (S.O_DefaultFundModel.f_book a), va_rf (S.O_DefaultFundModel.f_bids a), va_rf (S.O_DefaultFundModel.f_sharesThen a), va_rf (S.O_DefaultFundModel.f_weights a), va_rf (S.O_DefaultFundModel.f_bounds a), va_rf (S.O_DefaultFundModel.f_parts a), .int (S.O_DefaultFundModel.f_thrown a)])) b = wPF cyI cyO51b95 cyO28f5b { S with O_DefaultFundModel := { S.O_DefaultFundModel with f_margins := va_up S.O_DefaultFundModel.f_margins a v } } b := by by_cases hb : b = a <;> first | (simp only [wPF, va_up_ne _ _ hb]; done) | (simp only [wPF, va_up, if_neg hb]; done) | simp [wPF, va_re, va_up, va_rf, hb, h]
theorem wPu_O_DefaultFundModel_f_margins (cyI : ClassId) (cyO51b95 : ClassId) (cyO28f5b : ClassId) (X : va_W) (S : wPS) {A : Nat → Prop} {a k : Nat} (hD : va_D A (X ++ va_pl S.L (wPF cyI cyO51b95 cyO28f5b S))) (hL : a ∈ S.L) (h : S.K a = 4) (hk : (X ++ va_pl S.L (wPF cyI cyO51b95 cyO28f5b S))[k]? = some (a, wPF cyI cyO51b95 cyO28f5b S a)) (v : Option Nat) : (X ++ va_pl S.L (wPF cyI cyO51b95 cyO28f5b S)).set k (a, .inr (4, [va_rf v, va_rf (S.O_DefaultFundModel.f_sharesOf a), va_rf (S.O_DefaultFundModel.f_rooms a), va_rf (S.O_DefaultFundModel.f_gains a), va_rf (S.O_DefaultFundModel.f_tested a), va_rf (S.O_DefaultFundModel.f_states a), va_rf (S.O_DefaultFundModel.f_juniors a), va_rf (S.O_DefaultFundModel.f_assessedBy a), va_rf (S.O_DefaultFundModel.f_wonBy a), .int (S.O_DefaultFundModel.f_many a), va_rf (S.O_DefaultFundModel.f_owners a), va_rf (S.O_DefaultFundModel.f_lotsOf a), va_rf (S.O_DefaultFundModel.f_cameAt a), .int (S.O_DefaultFundModel.f_came a), .int (S.O_DefaultFundModel.f_clients a), .int (S.O_DefaultFundModel.f_capitalNow a), .int (S.O_DefaultFundModel.f_lossNow a), .int (S.O_DefaultFundModel.f_uncoveredNow a), .int (S.O_DefaultFundModel.f_failed a), .int (S.O_DefaultFundModel.f_book a), va_rf (S.O_DefaultFundModel.f_bids a), va_rf (S.O_DefaultFundModel.f_sharesThen a), va_rf (S.O_DefaultFundModel.f_weights a), va_rf (S.O_DefaultFundModel.f_bounds a), va_rf (S.O_DefaultFundModel.f_parts a), .int (S.O_DefaultFundModel.f_thrown a)])) = X ++ va_pl S.L (wPF cyI cyO51b95 cyO28f5b { S with O_DefaultFundModel := { S.O_DefaultFundModel with f_margins := va_up S.O_DefaultFundModel.f_margins a v } }) := by
  rw [va_pl_set hD hL hk]
  exact congrArg (fun l => X ++ l) (va_pl_congr (wSt_O_DefaultFundModel_f_margins cyI cyO51b95 cyO28f5b S h v))
theorem wSt_O_DefaultFundModel_f_sharesOf (cyI : ClassId) (cyO51b95 : ClassId) (cyO28f5b : ClassId) (S : wPS) {a : Nat} (h : S.K a = 4) (v : Option Nat) (b : Nat) : va_up (wPF cyI cyO51b95 cyO28f5b S) a (.inr (4, [va_rf (S.O_DefaultFundModel.f_margins a), va_rf v, va_rf (S.O_DefaultFundModel.f_rooms a), va_rf (S.O_DefaultFundModel.f_gains a), va_rf (S.O_DefaultFundModel.f_tested a), va_rf (S.O_DefaultFundModel.f_states a), va_rf (S.O_DefaultFundModel.f_juniors a), va_rf (S.O_DefaultFundModel.f_assessedBy a), va_rf (S.O_DefaultFundModel.f_wonBy a), .int (S.O_DefaultFundModel.f_many a), va_rf (S.O_DefaultFundModel.f_owners a), va_rf (S.O_DefaultFundModel.f_lotsOf a), va_rf (S.O_DefaultFundModel.f_cameAt a), .int (S.O_DefaultFundModel.f_came a), .int (S.O_DefaultFundModel.f_clients a), .int (S.O_DefaultFundModel.f_capitalNow a), .int (S.O_DefaultFundModel.f_lossNow a), .int (S.O_DefaultFundModel.f_uncoveredNow a), .int (S.O_DefaultFundModel.f_failed a), .int (S.O_DefaultFundModel.f_book a), va_rf (S.O_DefaultFundModel.f_bids a), va_rf (S.O_DefaultFundModel.f_sharesThen a), va_rf (S.O_DefaultFundModel.f_weights a), va_rf (S.O_DefaultFundModel.f_bounds a), va_rf (S.O_DefaultFundModel.f_parts a), .int (S.O_DefaultFundModel.f_thrown a)])) b = wPF cyI cyO51b95 cyO28f5b { S with O_DefaultFundModel := { S.O_DefaultFundModel with f_sharesOf := va_up S.O_DefaultFundModel.f_sharesOf a v } } b := by by_cases hb : b = a <;> first | (simp only [wPF, va_up_ne _ _ hb]; done) | (simp only [wPF, va_up, if_neg hb]; done) | simp [wPF, va_re, va_up, va_rf, hb, h]
theorem wPu_O_DefaultFundModel_f_sharesOf (cyI : ClassId) (cyO51b95 : ClassId) (cyO28f5b : ClassId) (X : va_W) (S : wPS) {A : Nat → Prop} {a k : Nat} (hD : va_D A (X ++ va_pl S.L (wPF cyI cyO51b95 cyO28f5b S))) (hL : a ∈ S.L) (h : S.K a = 4) (hk : (X ++ va_pl S.L (wPF cyI cyO51b95 cyO28f5b S))[k]? = some (a, wPF cyI cyO51b95 cyO28f5b S a)) (v : Option Nat) : (X ++ va_pl S.L (wPF cyI cyO51b95 cyO28f5b S)).set k (a, .inr (4, [va_rf (S.O_DefaultFundModel.f_margins a), va_rf v, va_rf (S.O_DefaultFundModel.f_rooms a), va_rf (S.O_DefaultFundModel.f_gains a), va_rf (S.O_DefaultFundModel.f_tested a), va_rf (S.O_DefaultFundModel.f_states a), va_rf (S.O_DefaultFundModel.f_juniors a), va_rf (S.O_DefaultFundModel.f_assessedBy a), va_rf (S.O_DefaultFundModel.f_wonBy a), .int (S.O_DefaultFundModel.f_many a), va_rf (S.O_DefaultFundModel.f_owners a), va_rf (S.O_DefaultFundModel.f_lotsOf a), va_rf (S.O_DefaultFundModel.f_cameAt a), .int (S.O_DefaultFundModel.f_came a), .int (S.O_DefaultFundModel.f_clients a), .int (S.O_DefaultFundModel.f_capitalNow a), .int (S.O_DefaultFundModel.f_lossNow a), .int (S.O_DefaultFundModel.f_uncoveredNow a), .int (S.O_DefaultFundModel.f_failed a), .int (S.O_DefaultFundModel.f_book a), va_rf (S.O_DefaultFundModel.f_bids a), va_rf (S.O_DefaultFundModel.f_sharesThen a), va_rf (S.O_DefaultFundModel.f_weights a), va_rf (S.O_DefaultFundModel.f_bounds a), va_rf (S.O_DefaultFundModel.f_parts a), .int (S.O_DefaultFundModel.f_thrown a)])) = X ++ va_pl S.L (wPF cyI cyO51b95 cyO28f5b { S with O_DefaultFundModel := { S.O_DefaultFundModel with f_sharesOf := va_up S.O_DefaultFundModel.f_sharesOf a v } }) := by
  rw [va_pl_set hD hL hk]
  exact congrArg (fun l => X ++ l) (va_pl_congr (wSt_O_DefaultFundModel_f_sharesOf cyI cyO51b95 cyO28f5b S h v))
theorem wSt_O_DefaultFundModel_f_rooms (cyI : ClassId) (cyO51b95 : ClassId) (cyO28f5b : ClassId) (S : wPS) {a : Nat} (h : S.K a = 4) (v : Option Nat) (b : Nat) : va_up (wPF cyI cyO51b95 cyO28f5b S) a (.inr (4, [va_rf (S.O_DefaultFundModel.f_margins a), va_rf (S.O_DefaultFundModel.f_sharesOf a), va_rf v, va_rf (S.O_DefaultFundModel.f_gains a), va_rf (S.O_DefaultFundModel.f_tested a), va_rf (S.O_DefaultFundModel.f_states a), va_rf (S.O_DefaultFundModel.f_juniors a), va_rf (S.O_DefaultFundModel.f_assessedBy a), va_rf (S.O_DefaultFundModel.f_wonBy a), .int (S.O_DefaultFundModel.f_many a), va_rf (S.O_DefaultFundModel.f_owners a), va_rf (S.O_DefaultFundModel.f_lotsOf a), va_rf (S.O_DefaultFundModel.f_cameAt a), .int (S.O_DefaultFundModel.f_came a), .int (S.O_DefaultFundModel.f_clients a), .int (S.O_DefaultFundModel.f_capitalNow a), .int (S.O_DefaultFundModel.f_lossNow a), .int (S.O_DefaultFundModel.f_uncoveredNow a), .int (S.O_DefaultFundModel.f_failed a), .int (S.O_DefaultFundModel.f_book a), va_rf (S.O_DefaultFundModel.f_bids a), va_rf (S.O_DefaultFundModel.f_sharesThen a), va_rf (S.O_DefaultFundModel.f_weights a), va_rf (S.O_DefaultFundModel.f_bounds a), va_rf (S.O_DefaultFundModel.f_parts a), .int (S.O_DefaultFundModel.f_thrown a)])) b = wPF cyI cyO51b95 cyO28f5b { S with O_DefaultFundModel := { S.O_DefaultFundModel with f_rooms := va_up S.O_DefaultFundModel.f_rooms a v } } b := by by_cases hb : b = a <;> first | (simp only [wPF, va_up_ne _ _ hb]; done) | (simp only [wPF, va_up, if_neg hb]; done) | simp [wPF, va_re, va_up, va_rf, hb, h]
theorem wPu_O_DefaultFundModel_f_rooms (cyI : ClassId) (cyO51b95 : ClassId) (cyO28f5b : ClassId) (X : va_W) (S : wPS) {A : Nat → Prop} {a k : Nat} (hD : va_D A (X ++ va_pl S.L (wPF cyI cyO51b95 cyO28f5b S))) (hL : a ∈ S.L) (h : S.K a = 4) (hk : (X ++ va_pl S.L (wPF cyI cyO51b95 cyO28f5b S))[k]? = some (a, wPF cyI cyO51b95 cyO28f5b S a)) (v : Option Nat) : (X ++ va_pl S.L (wPF cyI cyO51b95 cyO28f5b S)).set k (a, .inr (4, [va_rf (S.O_DefaultFundModel.f_margins a), va_rf (S.O_DefaultFundModel.f_sharesOf a), va_rf v, va_rf (S.O_DefaultFundModel.f_gains a), va_rf (S.O_DefaultFundModel.f_tested a), va_rf (S.O_DefaultFundModel.f_states a), va_rf (S.O_DefaultFundModel.f_juniors a), va_rf (S.O_DefaultFundModel.f_assessedBy a), va_rf (S.O_DefaultFundModel.f_wonBy a), .int (S.O_DefaultFundModel.f_many a), va_rf (S.O_DefaultFundModel.f_owners a), va_rf (S.O_DefaultFundModel.f_lotsOf a), va_rf (S.O_DefaultFundModel.f_cameAt a), .int (S.O_DefaultFundModel.f_came a), .int (S.O_DefaultFundModel.f_clients a), .int (S.O_DefaultFundModel.f_capitalNow a), .int (S.O_DefaultFundModel.f_lossNow a), .int (S.O_DefaultFundModel.f_uncoveredNow a), .int (S.O_DefaultFundModel.f_failed a), .int (S.O_DefaultFundModel.f_book a), va_rf (S.O_DefaultFundModel.f_bids a), va_rf (S.O_DefaultFundModel.f_sharesThen a), va_rf (S.O_DefaultFundModel.f_weights a), va_rf (S.O_DefaultFundModel.f_bounds a), va_rf (S.O_DefaultFundModel.f_parts a), .int (S.O_DefaultFundModel.f_thrown a)])) = X ++ va_pl S.L (wPF cyI cyO51b95 cyO28f5b { S with O_DefaultFundModel := { S.O_DefaultFundModel with f_rooms := va_up S.O_DefaultFundModel.f_rooms a v } }) := by
  rw [va_pl_set hD hL hk]
  exact congrArg (fun l => X ++ l) (va_pl_congr (wSt_O_DefaultFundModel_f_rooms cyI cyO51b95 cyO28f5b S h v))
theorem wSt_O_DefaultFundModel_f_gains (cyI : ClassId) (cyO51b95 : ClassId) (cyO28f5b : ClassId) (S : wPS) {a : Nat} (h : S.K a = 4) (v : Option Nat) (b : Nat) : va_up (wPF cyI cyO51b95 cyO28f5b S) a (.inr (4, [va_rf (S.O_DefaultFundModel.f_margins a), va_rf (S.O_DefaultFundModel.f_sharesOf a), va_rf (S.O_DefaultFundModel.f_rooms a), va_rf v, va_rf (S.O_DefaultFundModel.f_tested a), va_rf (S.O_DefaultFundModel.f_states a), va_rf (S.O_DefaultFundModel.f_juniors a), va_rf (S.O_DefaultFundModel.f_assessedBy a), va_rf (S.O_DefaultFundModel.f_wonBy a), .int (S.O_DefaultFundModel.f_many a), va_rf (S.O_DefaultFundModel.f_owners a), va_rf (S.O_DefaultFundModel.f_lotsOf a), va_rf (S.O_DefaultFundModel.f_cameAt a), .int (S.O_DefaultFundModel.f_came a), .int (S.O_DefaultFundModel.f_clients a), .int (S.O_DefaultFundModel.f_capitalNow a), .int (S.O_DefaultFundModel.f_lossNow a), .int (S.O_DefaultFundModel.f_uncoveredNow a), .int (S.O_DefaultFundModel.f_failed a), .int (S.O_DefaultFundModel.f_book a), va_rf (S.O_DefaultFundModel.f_bids a), va_rf (S.O_DefaultFundModel.f_sharesThen a), va_rf (S.O_DefaultFundModel.f_weights a), va_rf (S.O_DefaultFundModel.f_bounds a), va_rf (S.O_DefaultFundModel.f_parts a), .int (S.O_DefaultFundModel.f_thrown a)])) b = wPF cyI cyO51b95 cyO28f5b { S with O_DefaultFundModel := { S.O_DefaultFundModel with f_gains := va_up S.O_DefaultFundModel.f_gains a v } } b := by by_cases hb : b = a <;> first | (simp only [wPF, va_up_ne _ _ hb]; done) | (simp only [wPF, va_up, if_neg hb]; done) | simp [wPF, va_re, va_up, va_rf, hb, h]
theorem wPu_O_DefaultFundModel_f_gains (cyI : ClassId) (cyO51b95 : ClassId) (cyO28f5b : ClassId) (X : va_W) (S : wPS) {A : Nat → Prop} {a k : Nat} (hD : va_D A (X ++ va_pl S.L (wPF cyI cyO51b95 cyO28f5b S))) (hL : a ∈ S.L) (h : S.K a = 4) (hk : (X ++ va_pl S.L (wPF cyI cyO51b95 cyO28f5b S))[k]? = some (a, wPF cyI cyO51b95 cyO28f5b S a)) (v : Option Nat) : (X ++ va_pl S.L (wPF cyI cyO51b95 cyO28f5b S)).set k (a, .inr (4, [va_rf (S.O_DefaultFundModel.f_margins a), va_rf (S.O_DefaultFundModel.f_sharesOf a), va_rf (S.O_DefaultFundModel.f_rooms a), va_rf v, va_rf (S.O_DefaultFundModel.f_tested a), va_rf (S.O_DefaultFundModel.f_states a), va_rf (S.O_DefaultFundModel.f_juniors a), va_rf (S.O_DefaultFundModel.f_assessedBy a), va_rf (S.O_DefaultFundModel.f_wonBy a), .int (S.O_DefaultFundModel.f_many a), va_rf (S.O_DefaultFundModel.f_owners a), va_rf (S.O_DefaultFundModel.f_lotsOf a), va_rf (S.O_DefaultFundModel.f_cameAt a), .int (S.O_DefaultFundModel.f_came a), .int (S.O_DefaultFundModel.f_clients a), .int (S.O_DefaultFundModel.f_capitalNow a), .int (S.O_DefaultFundModel.f_lossNow a), .int (S.O_DefaultFundModel.f_uncoveredNow a), .int (S.O_DefaultFundModel.f_failed a), .int (S.O_DefaultFundModel.f_book a), va_rf (S.O_DefaultFundModel.f_bids a), va_rf (S.O_DefaultFundModel.f_sharesThen a), va_rf (S.O_DefaultFundModel.f_weights a), va_rf (S.O_DefaultFundModel.f_bounds a), va_rf (S.O_DefaultFundModel.f_parts a), .int (S.O_DefaultFundModel.f_thrown a)])) = X ++ va_pl S.L (wPF cyI cyO51b95 cyO28f5b { S with O_DefaultFundModel := { S.O_DefaultFundModel with f_gains := va_up S.O_DefaultFundModel.f_gains a v } }) := by
  rw [va_pl_set hD hL hk]
  exact congrArg (fun l => X ++ l) (va_pl_congr (wSt_O_DefaultFundModel_f_gains cyI cyO51b95 cyO28f5b S h v))
theorem wSt_O_DefaultFundModel_f_tested (cyI : ClassId) (cyO51b95 : ClassId) (cyO28f5b : ClassId) (S : wPS) {a : Nat} (h : S.K a = 4) (v : Option Nat) (b : Nat) : va_up (wPF cyI cyO51b95 cyO28f5b S) a (.inr (4, [va_rf (S.O_DefaultFundModel.f_margins a), va_rf (S.O_DefaultFundModel.f_sharesOf a), va_rf (S.O_DefaultFundModel.f_rooms a), va_rf (S.O_DefaultFundModel.f_gains a), va_rf v, va_rf (S.O_DefaultFundModel.f_states a), va_rf (S.O_DefaultFundModel.f_juniors a), va_rf (S.O_DefaultFundModel.f_assessedBy a), va_rf (S.O_DefaultFundModel.f_wonBy a), .int (S.O_DefaultFundModel.f_many a), va_rf (S.O_DefaultFundModel.f_owners a), va_rf (S.O_DefaultFundModel.f_lotsOf a), va_rf (S.O_DefaultFundModel.f_cameAt a), .int (S.O_DefaultFundModel.f_came a), .int (S.O_DefaultFundModel.f_clients a), .int (S.O_DefaultFundModel.f_capitalNow a), .int (S.O_DefaultFundModel.f_lossNow a), .int (S.O_DefaultFundModel.f_uncoveredNow a), .int (S.O_DefaultFundModel.f_failed a), .int (S.O_DefaultFundModel.f_book a), va_rf (S.O_DefaultFundModel.f_bids a), va_rf (S.O_DefaultFundModel.f_sharesThen a), va_rf (S.O_DefaultFundModel.f_weights a), va_rf (S.O_DefaultFundModel.f_bounds a), va_rf (S.O_DefaultFundModel.f_parts a), .int (S.O_DefaultFundModel.f_thrown a)])) b = wPF cyI cyO51b95 cyO28f5b { S with O_DefaultFundModel := { S.O_DefaultFundModel with f_tested := va_up S.O_DefaultFundModel.f_tested a v } } b := by by_cases hb : b = a <;> first | (simp only [wPF, va_up_ne _ _ hb]; done) | (simp only [wPF, va_up, if_neg hb]; done) | simp [wPF, va_re, va_up, va_rf, hb, h]
theorem wPu_O_DefaultFundModel_f_tested (cyI : ClassId) (cyO51b95 : ClassId) (cyO28f5b : ClassId) (X : va_W) (S : wPS) {A : Nat → Prop} {a k : Nat} (hD : va_D A (X ++ va_pl S.L (wPF cyI cyO51b95 cyO28f5b S))) (hL : a ∈ S.L) (h : S.K a = 4) (hk : (X ++ va_pl S.L (wPF cyI cyO51b95 cyO28f5b S))[k]? = some (a, wPF cyI cyO51b95 cyO28f5b S a)) (v : Option Nat) : (X ++ va_pl S.L (wPF cyI cyO51b95 cyO28f5b S)).set k (a, .inr (4, [va_rf (S.O_DefaultFundModel.f_margins a), va_rf (S.O_DefaultFundModel.f_sharesOf a), va_rf (S.O_DefaultFundModel.f_rooms a), va_rf (S.O_DefaultFundModel.f_gains a), va_rf v, va_rf (S.O_DefaultFundModel.f_states a), va_rf (S.O_DefaultFundModel.f_juniors a), va_rf (S.O_DefaultFundModel.f_assessedBy a), va_rf (S.O_DefaultFundModel.f_wonBy a), .int (S.O_DefaultFundModel.f_many a), va_rf (S.O_DefaultFundModel.f_owners a), va_rf (S.O_DefaultFundModel.f_lotsOf a), va_rf (S.O_DefaultFundModel.f_cameAt a), .int (S.O_DefaultFundModel.f_came a), .int (S.O_DefaultFundModel.f_clients a), .int (S.O_DefaultFundModel.f_capitalNow a), .int (S.O_DefaultFundModel.f_lossNow a), .int (S.O_DefaultFundModel.f_uncoveredNow a), .int (S.O_DefaultFundModel.f_failed a), .int (S.O_DefaultFundModel.f_book a), va_rf (S.O_DefaultFundModel.f_bids a), va_rf (S.O_DefaultFundModel.f_sharesThen a), va_rf (S.O_DefaultFundModel.f_weights a), va_rf (S.O_DefaultFundModel.f_bounds a), va_rf (S.O_DefaultFundModel.f_parts a), .int (S.O_DefaultFundModel.f_thrown a)])) = X ++ va_pl S.L (wPF cyI cyO51b95 cyO28f5b { S with O_DefaultFundModel := { S.O_DefaultFundModel with f_tested := va_up S.O_DefaultFundModel.f_tested a v } }) := by
  rw [va_pl_set hD hL hk]
  exact congrArg (fun l => X ++ l) (va_pl_congr (wSt_O_DefaultFundModel_f_tested cyI cyO51b95 cyO28f5b S h v))
theorem wSt_O_DefaultFundModel_f_states (cyI : ClassId) (cyO51b95 : ClassId) (cyO28f5b : ClassId) (S : wPS) {a : Nat} (h : S.K a = 4) (v : Option Nat) (b : Nat) : va_up (wPF cyI cyO51b95 cyO28f5b S) a (.inr (4, [va_rf (S.O_DefaultFundModel.f_margins a), va_rf (S.O_DefaultFundModel.f_sharesOf a), va_rf (S.O_DefaultFundModel.f_rooms a), va_rf (S.O_DefaultFundModel.f_gains a), va_rf (S.O_DefaultFundModel.f_tested a), va_rf v, va_rf (S.O_DefaultFundModel.f_juniors a), va_rf (S.O_DefaultFundModel.f_assessedBy a), va_rf (S.O_DefaultFundModel.f_wonBy a), .int (S.O_DefaultFundModel.f_many a), va_rf (S.O_DefaultFundModel.f_owners a), va_rf (S.O_DefaultFundModel.f_lotsOf a), va_rf (S.O_DefaultFundModel.f_cameAt a), .int (S.O_DefaultFundModel.f_came a), .int (S.O_DefaultFundModel.f_clients a), .int (S.O_DefaultFundModel.f_capitalNow a), .int (S.O_DefaultFundModel.f_lossNow a), .int (S.O_DefaultFundModel.f_uncoveredNow a), .int (S.O_DefaultFundModel.f_failed a), .int (S.O_DefaultFundModel.f_book a), va_rf (S.O_DefaultFundModel.f_bids a), va_rf (S.O_DefaultFundModel.f_sharesThen a), va_rf (S.O_DefaultFundModel.f_weights a), va_rf (S.O_DefaultFundModel.f_bounds a), va_rf (S.O_DefaultFundModel.f_parts a), .int (S.O_DefaultFundModel.f_thrown a)])) b = wPF cyI cyO51b95 cyO28f5b { S with O_DefaultFundModel := { S.O_DefaultFundModel with f_states := va_up S.O_DefaultFundModel.f_states a v } } b := by by_cases hb : b = a <;> first | (simp only [wPF, va_up_ne _ _ hb]; done) | (simp only [wPF, va_up, if_neg hb]; done) | simp [wPF, va_re, va_up, va_rf, hb, h]
theorem wPu_O_DefaultFundModel_f_states (cyI : ClassId) (cyO51b95 : ClassId) (cyO28f5b : ClassId) (X : va_W) (S : wPS) {A : Nat → Prop} {a k : Nat} (hD : va_D A (X ++ va_pl S.L (wPF cyI cyO51b95 cyO28f5b S))) (hL : a ∈ S.L) (h : S.K a = 4) (hk : (X ++ va_pl S.L (wPF cyI cyO51b95 cyO28f5b S))[k]? = some (a, wPF cyI cyO51b95 cyO28f5b S a)) (v : Option Nat) : (X ++ va_pl S.L (wPF cyI cyO51b95 cyO28f5b S)).set k (a, .inr (4, [va_rf (S.O_DefaultFundModel.f_margins a), va_rf (S.O_DefaultFundModel.f_sharesOf a), va_rf (S.O_DefaultFundModel.f_rooms a), va_rf (S.O_DefaultFundModel.f_gains a), va_rf (S.O_DefaultFundModel.f_tested a), va_rf v, va_rf (S.O_DefaultFundModel.f_juniors a), va_rf (S.O_DefaultFundModel.f_assessedBy a), va_rf (S.O_DefaultFundModel.f_wonBy a), .int (S.O_DefaultFundModel.f_many a), va_rf (S.O_DefaultFundModel.f_owners a), va_rf (S.O_DefaultFundModel.f_lotsOf a), va_rf (S.O_DefaultFundModel.f_cameAt a), .int (S.O_DefaultFundModel.f_came a), .int (S.O_DefaultFundModel.f_clients a), .int (S.O_DefaultFundModel.f_capitalNow a), .int (S.O_DefaultFundModel.f_lossNow a), .int (S.O_DefaultFundModel.f_uncoveredNow a), .int (S.O_DefaultFundModel.f_failed a), .int (S.O_DefaultFundModel.f_book a), va_rf (S.O_DefaultFundModel.f_bids a), va_rf (S.O_DefaultFundModel.f_sharesThen a), va_rf (S.O_DefaultFundModel.f_weights a), va_rf (S.O_DefaultFundModel.f_bounds a), va_rf (S.O_DefaultFundModel.f_parts a), .int (S.O_DefaultFundModel.f_thrown a)])) = X ++ va_pl S.L (wPF cyI cyO51b95 cyO28f5b { S with O_DefaultFundModel := { S.O_DefaultFundModel with f_states := va_up S.O_DefaultFundModel.f_states a v } }) := by
  rw [va_pl_set hD hL hk]
  exact congrArg (fun l => X ++ l) (va_pl_congr (wSt_O_DefaultFundModel_f_states cyI cyO51b95 cyO28f5b S h v))
theorem wSt_O_DefaultFundModel_f_juniors (cyI : ClassId) (cyO51b95 : ClassId) (cyO28f5b : ClassId) (S : wPS) {a : Nat} (h : S.K a = 4) (v : Option Nat) (b : Nat) : va_up (wPF cyI cyO51b95 cyO28f5b S) a (.inr (4, [va_rf (S.O_DefaultFundModel.f_margins a), va_rf (S.O_DefaultFundModel.f_sharesOf a), va_rf (S.O_DefaultFundModel.f_rooms a), va_rf (S.O_DefaultFundModel.f_gains a), va_rf (S.O_DefaultFundModel.f_tested a), va_rf (S.O_DefaultFundModel.f_states a), va_rf v, va_rf (S.O_DefaultFundModel.f_assessedBy a), va_rf (S.O_DefaultFundModel.f_wonBy a), .int (S.O_DefaultFundModel.f_many a), va_rf (S.O_DefaultFundModel.f_owners a), va_rf (S.O_DefaultFundModel.f_lotsOf a), va_rf (S.O_DefaultFundModel.f_cameAt a), .int (S.O_DefaultFundModel.f_came a), .int (S.O_DefaultFundModel.f_clients a), .int (S.O_DefaultFundModel.f_capitalNow a), .int (S.O_DefaultFundModel.f_lossNow a), .int (S.O_DefaultFundModel.f_uncoveredNow a), .int (S.O_DefaultFundModel.f_failed a), .int (S.O_DefaultFundModel.f_book a), va_rf (S.O_DefaultFundModel.f_bids a), va_rf (S.O_DefaultFundModel.f_sharesThen a), va_rf (S.O_DefaultFundModel.f_weights a), va_rf (S.O_DefaultFundModel.f_bounds a), va_rf (S.O_DefaultFundModel.f_parts a), .int (S.O_DefaultFundModel.f_thrown a)])) b = wPF cyI cyO51b95 cyO28f5b { S with O_DefaultFundModel := { S.O_DefaultFundModel with f_juniors := va_up S.O_DefaultFundModel.f_juniors a v } } b := by by_cases hb : b = a <;> first | (simp only [wPF, va_up_ne _ _ hb]; done) | (simp only [wPF, va_up, if_neg hb]; done) | simp [wPF, va_re, va_up, va_rf, hb, h]
theorem wPu_O_DefaultFundModel_f_juniors (cyI : ClassId) (cyO51b95 : ClassId) (cyO28f5b : ClassId) (X : va_W) (S : wPS) {A : Nat → Prop} {a k : Nat} (hD : va_D A (X ++ va_pl S.L (wPF cyI cyO51b95 cyO28f5b S))) (hL : a ∈ S.L) (h : S.K a = 4) (hk : (X ++ va_pl S.L (wPF cyI cyO51b95 cyO28f5b S))[k]? = some (a, wPF cyI cyO51b95 cyO28f5b S a)) (v : Option Nat) : (X ++ va_pl S.L (wPF cyI cyO51b95 cyO28f5b S)).set k (a, .inr (4, [va_rf (S.O_DefaultFundModel.f_margins a), va_rf (S.O_DefaultFundModel.f_sharesOf a), va_rf (S.O_DefaultFundModel.f_rooms a), va_rf (S.O_DefaultFundModel.f_gains a), va_rf (S.O_DefaultFundModel.f_tested a), va_rf (S.O_DefaultFundModel.f_states a), va_rf v, va_rf (S.O_DefaultFundModel.f_assessedBy a), va_rf (S.O_DefaultFundModel.f_wonBy a), .int (S.O_DefaultFundModel.f_many a), va_rf (S.O_DefaultFundModel.f_owners a), va_rf (S.O_DefaultFundModel.f_lotsOf a), va_rf (S.O_DefaultFundModel.f_cameAt a), .int (S.O_DefaultFundModel.f_came a), .int (S.O_DefaultFundModel.f_clients a), .int (S.O_DefaultFundModel.f_capitalNow a), .int (S.O_DefaultFundModel.f_lossNow a), .int (S.O_DefaultFundModel.f_uncoveredNow a), .int (S.O_DefaultFundModel.f_failed a), .int (S.O_DefaultFundModel.f_book a), va_rf (S.O_DefaultFundModel.f_bids a), va_rf (S.O_DefaultFundModel.f_sharesThen a), va_rf (S.O_DefaultFundModel.f_weights a), va_rf (S.O_DefaultFundModel.f_bounds a), va_rf (S.O_DefaultFundModel.f_parts a), .int (S.O_DefaultFundModel.f_thrown a)])) = X ++ va_pl S.L (wPF cyI cyO51b95 cyO28f5b { S with O_DefaultFundModel := { S.O_DefaultFundModel with f_juniors := va_up S.O_DefaultFundModel.f_juniors a v } }) := by
  rw [va_pl_set hD hL hk]
  exact congrArg (fun l => X ++ l) (va_pl_congr (wSt_O_DefaultFundModel_f_juniors cyI cyO51b95 cyO28f5b S h v))
theorem wSt_O_DefaultFundModel_f_assessedBy (cyI : ClassId) (cyO51b95 : ClassId) (cyO28f5b : ClassId) (S : wPS) {a : Nat} (h : S.K a = 4) (v : Option Nat) (b : Nat) : va_up (wPF cyI cyO51b95 cyO28f5b S) a (.inr (4, [va_rf (S.O_DefaultFundModel.f_margins a), va_rf (S.O_DefaultFundModel.f_sharesOf a), va_rf (S.O_DefaultFundModel.f_rooms a), va_rf (S.O_DefaultFundModel.f_gains a), va_rf (S.O_DefaultFundModel.f_tested a), va_rf (S.O_DefaultFundModel.f_states a), va_rf (S.O_DefaultFundModel.f_juniors a), va_rf v, va_rf (S.O_DefaultFundModel.f_wonBy a), .int (S.O_DefaultFundModel.f_many a), va_rf (S.O_DefaultFundModel.f_owners a), va_rf (S.O_DefaultFundModel.f_lotsOf a), va_rf (S.O_DefaultFundModel.f_cameAt a), .int (S.O_DefaultFundModel.f_came a), .int (S.O_DefaultFundModel.f_clients a), .int (S.O_DefaultFundModel.f_capitalNow a), .int (S.O_DefaultFundModel.f_lossNow a), .int (S.O_DefaultFundModel.f_uncoveredNow a), .int (S.O_DefaultFundModel.f_failed a), .int (S.O_DefaultFundModel.f_book a), va_rf (S.O_DefaultFundModel.f_bids a), va_rf (S.O_DefaultFundModel.f_sharesThen a), va_rf (S.O_DefaultFundModel.f_weights a), va_rf (S.O_DefaultFundModel.f_bounds a), va_rf (S.O_DefaultFundModel.f_parts a), .int (S.O_DefaultFundModel.f_thrown a)])) b = wPF cyI cyO51b95 cyO28f5b { S with O_DefaultFundModel := { S.O_DefaultFundModel with f_assessedBy := va_up S.O_DefaultFundModel.f_assessedBy a v } } b := by by_cases hb : b = a <;> first | (simp only [wPF, va_up_ne _ _ hb]; done) | (simp only [wPF, va_up, if_neg hb]; done) | simp [wPF, va_re, va_up, va_rf, hb, h]
theorem wPu_O_DefaultFundModel_f_assessedBy (cyI : ClassId) (cyO51b95 : ClassId) (cyO28f5b : ClassId) (X : va_W) (S : wPS) {A : Nat → Prop} {a k : Nat} (hD : va_D A (X ++ va_pl S.L (wPF cyI cyO51b95 cyO28f5b S))) (hL : a ∈ S.L) (h : S.K a = 4) (hk : (X ++ va_pl S.L (wPF cyI cyO51b95 cyO28f5b S))[k]? = some (a, wPF cyI cyO51b95 cyO28f5b S a)) (v : Option Nat) : (X ++ va_pl S.L (wPF cyI cyO51b95 cyO28f5b S)).set k (a, .inr (4, [va_rf (S.O_DefaultFundModel.f_margins a), va_rf (S.O_DefaultFundModel.f_sharesOf a), va_rf (S.O_DefaultFundModel.f_rooms a), va_rf (S.O_DefaultFundModel.f_gains a), va_rf (S.O_DefaultFundModel.f_tested a), va_rf (S.O_DefaultFundModel.f_states a), va_rf (S.O_DefaultFundModel.f_juniors a), va_rf v, va_rf (S.O_DefaultFundModel.f_wonBy a), .int (S.O_DefaultFundModel.f_many a), va_rf (S.O_DefaultFundModel.f_owners a), va_rf (S.O_DefaultFundModel.f_lotsOf a), va_rf (S.O_DefaultFundModel.f_cameAt a), .int (S.O_DefaultFundModel.f_came a), .int (S.O_DefaultFundModel.f_clients a), .int (S.O_DefaultFundModel.f_capitalNow a), .int (S.O_DefaultFundModel.f_lossNow a), .int (S.O_DefaultFundModel.f_uncoveredNow a), .int (S.O_DefaultFundModel.f_failed a), .int (S.O_DefaultFundModel.f_book a), va_rf (S.O_DefaultFundModel.f_bids a), va_rf (S.O_DefaultFundModel.f_sharesThen a), va_rf (S.O_DefaultFundModel.f_weights a), va_rf (S.O_DefaultFundModel.f_bounds a), va_rf (S.O_DefaultFundModel.f_parts a), .int (S.O_DefaultFundModel.f_thrown a)])) = X ++ va_pl S.L (wPF cyI cyO51b95 cyO28f5b { S with O_DefaultFundModel := { S.O_DefaultFundModel with f_assessedBy := va_up S.O_DefaultFundModel.f_assessedBy a v } }) := by
  rw [va_pl_set hD hL hk]
  exact congrArg (fun l => X ++ l) (va_pl_congr (wSt_O_DefaultFundModel_f_assessedBy cyI cyO51b95 cyO28f5b S h v))
theorem wSt_O_DefaultFundModel_f_wonBy (cyI : ClassId) (cyO51b95 : ClassId) (cyO28f5b : ClassId) (S : wPS) {a : Nat} (h : S.K a = 4) (v : Option Nat) (b : Nat) : va_up (wPF cyI cyO51b95 cyO28f5b S) a (.inr (4, [va_rf (S.O_DefaultFundModel.f_margins a), va_rf (S.O_DefaultFundModel.f_sharesOf a), va_rf (S.O_DefaultFundModel.f_rooms a), va_rf (S.O_DefaultFundModel.f_gains a), va_rf (S.O_DefaultFundModel.f_tested a), va_rf (S.O_DefaultFundModel.f_states a), va_rf (S.O_DefaultFundModel.f_juniors a), va_rf (S.O_DefaultFundModel.f_assessedBy a), va_rf v, .int (S.O_DefaultFundModel.f_many a), va_rf (S.O_DefaultFundModel.f_owners a), va_rf (S.O_DefaultFundModel.f_lotsOf a), va_rf (S.O_DefaultFundModel.f_cameAt a), .int (S.O_DefaultFundModel.f_came a), .int (S.O_DefaultFundModel.f_clients a), .int (S.O_DefaultFundModel.f_capitalNow a), .int (S.O_DefaultFundModel.f_lossNow a), .int (S.O_DefaultFundModel.f_uncoveredNow a), .int (S.O_DefaultFundModel.f_failed a), .int (S.O_DefaultFundModel.f_book a), va_rf (S.O_DefaultFundModel.f_bids a), va_rf (S.O_DefaultFundModel.f_sharesThen a), va_rf (S.O_DefaultFundModel.f_weights a), va_rf (S.O_DefaultFundModel.f_bounds a), va_rf (S.O_DefaultFundModel.f_parts a), .int (S.O_DefaultFundModel.f_thrown a)])) b = wPF cyI cyO51b95 cyO28f5b { S with O_DefaultFundModel := { S.O_DefaultFundModel with f_wonBy := va_up S.O_DefaultFundModel.f_wonBy a v } } b := by by_cases hb : b = a <;> first | (simp only [wPF, va_up_ne _ _ hb]; done) | (simp only [wPF, va_up, if_neg hb]; done) | simp [wPF, va_re, va_up, va_rf, hb, h]
theorem wPu_O_DefaultFundModel_f_wonBy (cyI : ClassId) (cyO51b95 : ClassId) (cyO28f5b : ClassId) (X : va_W) (S : wPS) {A : Nat → Prop} {a k : Nat} (hD : va_D A (X ++ va_pl S.L (wPF cyI cyO51b95 cyO28f5b S))) (hL : a ∈ S.L) (h : S.K a = 4) (hk : (X ++ va_pl S.L (wPF cyI cyO51b95 cyO28f5b S))[k]? = some (a, wPF cyI cyO51b95 cyO28f5b S a)) (v : Option Nat) : (X ++ va_pl S.L (wPF cyI cyO51b95 cyO28f5b S)).set k (a, .inr (4, [va_rf (S.O_DefaultFundModel.f_margins a), va_rf (S.O_DefaultFundModel.f_sharesOf a), va_rf (S.O_DefaultFundModel.f_rooms a), va_rf (S.O_DefaultFundModel.f_gains a), va_rf (S.O_DefaultFundModel.f_tested a), va_rf (S.O_DefaultFundModel.f_states a), va_rf (S.O_DefaultFundModel.f_juniors a), va_rf (S.O_DefaultFundModel.f_assessedBy a), va_rf v, .int (S.O_DefaultFundModel.f_many a), va_rf (S.O_DefaultFundModel.f_owners a), va_rf (S.O_DefaultFundModel.f_lotsOf a), va_rf (S.O_DefaultFundModel.f_cameAt a), .int (S.O_DefaultFundModel.f_came a), .int (S.O_DefaultFundModel.f_clients a), .int (S.O_DefaultFundModel.f_capitalNow a), .int (S.O_DefaultFundModel.f_lossNow a), .int (S.O_DefaultFundModel.f_uncoveredNow a), .int (S.O_DefaultFundModel.f_failed a), .int (S.O_DefaultFundModel.f_book a), va_rf (S.O_DefaultFundModel.f_bids a), va_rf (S.O_DefaultFundModel.f_sharesThen a), va_rf (S.O_DefaultFundModel.f_weights a), va_rf (S.O_DefaultFundModel.f_bounds a), va_rf (S.O_DefaultFundModel.f_parts a), .int (S.O_DefaultFundModel.f_thrown a)])) = X ++ va_pl S.L (wPF cyI cyO51b95 cyO28f5b { S with O_DefaultFundModel := { S.O_DefaultFundModel with f_wonBy := va_up S.O_DefaultFundModel.f_wonBy a v } }) := by
  rw [va_pl_set hD hL hk]
  exact congrArg (fun l => X ++ l) (va_pl_congr (wSt_O_DefaultFundModel_f_wonBy cyI cyO51b95 cyO28f5b S h v))
theorem wSt_O_DefaultFundModel_f_many (cyI : ClassId) (cyO51b95 : ClassId) (cyO28f5b : ClassId) (S : wPS) {a : Nat} (h : S.K a = 4) (v : Int32) (b : Nat) : va_up (wPF cyI cyO51b95 cyO28f5b S) a (.inr (4, [va_rf (S.O_DefaultFundModel.f_margins a), va_rf (S.O_DefaultFundModel.f_sharesOf a), va_rf (S.O_DefaultFundModel.f_rooms a), va_rf (S.O_DefaultFundModel.f_gains a), va_rf (S.O_DefaultFundModel.f_tested a), va_rf (S.O_DefaultFundModel.f_states a), va_rf (S.O_DefaultFundModel.f_juniors a), va_rf (S.O_DefaultFundModel.f_assessedBy a), va_rf (S.O_DefaultFundModel.f_wonBy a), .int v, va_rf (S.O_DefaultFundModel.f_owners a), va_rf (S.O_DefaultFundModel.f_lotsOf a), va_rf (S.O_DefaultFundModel.f_cameAt a), .int (S.O_DefaultFundModel.f_came a), .int (S.O_DefaultFundModel.f_clients a), .int (S.O_DefaultFundModel.f_capitalNow a), .int (S.O_DefaultFundModel.f_lossNow a), .int (S.O_DefaultFundModel.f_uncoveredNow a), .int (S.O_DefaultFundModel.f_failed a), .int (S.O_DefaultFundModel.f_book a), va_rf (S.O_DefaultFundModel.f_bids a), va_rf (S.O_DefaultFundModel.f_sharesThen a), va_rf (S.O_DefaultFundModel.f_weights a), va_rf (S.O_DefaultFundModel.f_bounds a), va_rf (S.O_DefaultFundModel.f_parts a), .int (S.O_DefaultFundModel.f_thrown a)])) b = wPF cyI cyO51b95 cyO28f5b { S with O_DefaultFundModel := { S.O_DefaultFundModel with f_many := va_up S.O_DefaultFundModel.f_many a v } } b := by by_cases hb : b = a <;> first | (simp only [wPF, va_up_ne _ _ hb]; done) | (simp only [wPF, va_up, if_neg hb]; done) | simp [wPF, va_re, va_up, va_rf, hb, h]
theorem wPu_O_DefaultFundModel_f_many (cyI : ClassId) (cyO51b95 : ClassId) (cyO28f5b : ClassId) (X : va_W) (S : wPS) {A : Nat → Prop} {a k : Nat} (hD : va_D A (X ++ va_pl S.L (wPF cyI cyO51b95 cyO28f5b S))) (hL : a ∈ S.L) (h : S.K a = 4) (hk : (X ++ va_pl S.L (wPF cyI cyO51b95 cyO28f5b S))[k]? = some (a, wPF cyI cyO51b95 cyO28f5b S a)) (v : Int32) : (X ++ va_pl S.L (wPF cyI cyO51b95 cyO28f5b S)).set k (a, .inr (4, [va_rf (S.O_DefaultFundModel.f_margins a), va_rf (S.O_DefaultFundModel.f_sharesOf a), va_rf (S.O_DefaultFundModel.f_rooms a), va_rf (S.O_DefaultFundModel.f_gains a), va_rf (S.O_DefaultFundModel.f_tested a), va_rf (S.O_DefaultFundModel.f_states a), va_rf (S.O_DefaultFundModel.f_juniors a), va_rf (S.O_DefaultFundModel.f_assessedBy a), va_rf (S.O_DefaultFundModel.f_wonBy a), .int v, va_rf (S.O_DefaultFundModel.f_owners a), va_rf (S.O_DefaultFundModel.f_lotsOf a), va_rf (S.O_DefaultFundModel.f_cameAt a), .int (S.O_DefaultFundModel.f_came a), .int (S.O_DefaultFundModel.f_clients a), .int (S.O_DefaultFundModel.f_capitalNow a), .int (S.O_DefaultFundModel.f_lossNow a), .int (S.O_DefaultFundModel.f_uncoveredNow a), .int (S.O_DefaultFundModel.f_failed a), .int (S.O_DefaultFundModel.f_book a), va_rf (S.O_DefaultFundModel.f_bids a), va_rf (S.O_DefaultFundModel.f_sharesThen a), va_rf (S.O_DefaultFundModel.f_weights a), va_rf (S.O_DefaultFundModel.f_bounds a), va_rf (S.O_DefaultFundModel.f_parts a), .int (S.O_DefaultFundModel.f_thrown a)])) = X ++ va_pl S.L (wPF cyI cyO51b95 cyO28f5b { S with O_DefaultFundModel := { S.O_DefaultFundModel with f_many := va_up S.O_DefaultFundModel.f_many a v } }) := by
  rw [va_pl_set hD hL hk]
  exact congrArg (fun l => X ++ l) (va_pl_congr (wSt_O_DefaultFundModel_f_many cyI cyO51b95 cyO28f5b S h v))
theorem wSt_O_DefaultFundModel_f_owners (cyI : ClassId) (cyO51b95 : ClassId) (cyO28f5b : ClassId) (S : wPS) {a : Nat} (h : S.K a = 4) (v : Option Nat) (b : Nat) : va_up (wPF cyI cyO51b95 cyO28f5b S) a (.inr (4, [va_rf (S.O_DefaultFundModel.f_margins a), va_rf (S.O_DefaultFundModel.f_sharesOf a), va_rf (S.O_DefaultFundModel.f_rooms a), va_rf (S.O_DefaultFundModel.f_gains a), va_rf (S.O_DefaultFundModel.f_tested a), va_rf (S.O_DefaultFundModel.f_states a), va_rf (S.O_DefaultFundModel.f_juniors a), va_rf (S.O_DefaultFundModel.f_assessedBy a), va_rf (S.O_DefaultFundModel.f_wonBy a), .int (S.O_DefaultFundModel.f_many a), va_rf v, va_rf (S.O_DefaultFundModel.f_lotsOf a), va_rf (S.O_DefaultFundModel.f_cameAt a), .int (S.O_DefaultFundModel.f_came a), .int (S.O_DefaultFundModel.f_clients a), .int (S.O_DefaultFundModel.f_capitalNow a), .int (S.O_DefaultFundModel.f_lossNow a), .int (S.O_DefaultFundModel.f_uncoveredNow a), .int (S.O_DefaultFundModel.f_failed a), .int (S.O_DefaultFundModel.f_book a), va_rf (S.O_DefaultFundModel.f_bids a), va_rf (S.O_DefaultFundModel.f_sharesThen a), va_rf (S.O_DefaultFundModel.f_weights a), va_rf (S.O_DefaultFundModel.f_bounds a), va_rf (S.O_DefaultFundModel.f_parts a), .int (S.O_DefaultFundModel.f_thrown a)])) b = wPF cyI cyO51b95 cyO28f5b { S with O_DefaultFundModel := { S.O_DefaultFundModel with f_owners := va_up S.O_DefaultFundModel.f_owners a v } } b := by by_cases hb : b = a <;> first | (simp only [wPF, va_up_ne _ _ hb]; done) | (simp only [wPF, va_up, if_neg hb]; done) | simp [wPF, va_re, va_up, va_rf, hb, h]
theorem wPu_O_DefaultFundModel_f_owners (cyI : ClassId) (cyO51b95 : ClassId) (cyO28f5b : ClassId) (X : va_W) (S : wPS) {A : Nat → Prop} {a k : Nat} (hD : va_D A (X ++ va_pl S.L (wPF cyI cyO51b95 cyO28f5b S))) (hL : a ∈ S.L) (h : S.K a = 4) (hk : (X ++ va_pl S.L (wPF cyI cyO51b95 cyO28f5b S))[k]? = some (a, wPF cyI cyO51b95 cyO28f5b S a)) (v : Option Nat) : (X ++ va_pl S.L (wPF cyI cyO51b95 cyO28f5b S)).set k (a, .inr (4, [va_rf (S.O_DefaultFundModel.f_margins a), va_rf (S.O_DefaultFundModel.f_sharesOf a), va_rf (S.O_DefaultFundModel.f_rooms a), va_rf (S.O_DefaultFundModel.f_gains a), va_rf (S.O_DefaultFundModel.f_tested a), va_rf (S.O_DefaultFundModel.f_states a), va_rf (S.O_DefaultFundModel.f_juniors a), va_rf (S.O_DefaultFundModel.f_assessedBy a), va_rf (S.O_DefaultFundModel.f_wonBy a), .int (S.O_DefaultFundModel.f_many a), va_rf v, va_rf (S.O_DefaultFundModel.f_lotsOf a), va_rf (S.O_DefaultFundModel.f_cameAt a), .int (S.O_DefaultFundModel.f_came a), .int (S.O_DefaultFundModel.f_clients a), .int (S.O_DefaultFundModel.f_capitalNow a), .int (S.O_DefaultFundModel.f_lossNow a), .int (S.O_DefaultFundModel.f_uncoveredNow a), .int (S.O_DefaultFundModel.f_failed a), .int (S.O_DefaultFundModel.f_book a), va_rf (S.O_DefaultFundModel.f_bids a), va_rf (S.O_DefaultFundModel.f_sharesThen a), va_rf (S.O_DefaultFundModel.f_weights a), va_rf (S.O_DefaultFundModel.f_bounds a), va_rf (S.O_DefaultFundModel.f_parts a), .int (S.O_DefaultFundModel.f_thrown a)])) = X ++ va_pl S.L (wPF cyI cyO51b95 cyO28f5b { S with O_DefaultFundModel := { S.O_DefaultFundModel with f_owners := va_up S.O_DefaultFundModel.f_owners a v } }) := by
  rw [va_pl_set hD hL hk]
  exact congrArg (fun l => X ++ l) (va_pl_congr (wSt_O_DefaultFundModel_f_owners cyI cyO51b95 cyO28f5b S h v))
theorem wSt_O_DefaultFundModel_f_lotsOf (cyI : ClassId) (cyO51b95 : ClassId) (cyO28f5b : ClassId) (S : wPS) {a : Nat} (h : S.K a = 4) (v : Option Nat) (b : Nat) : va_up (wPF cyI cyO51b95 cyO28f5b S) a (.inr (4, [va_rf (S.O_DefaultFundModel.f_margins a), va_rf (S.O_DefaultFundModel.f_sharesOf a), va_rf (S.O_DefaultFundModel.f_rooms a), va_rf (S.O_DefaultFundModel.f_gains a), va_rf (S.O_DefaultFundModel.f_tested a), va_rf (S.O_DefaultFundModel.f_states a), va_rf (S.O_DefaultFundModel.f_juniors a), va_rf (S.O_DefaultFundModel.f_assessedBy a), va_rf (S.O_DefaultFundModel.f_wonBy a), .int (S.O_DefaultFundModel.f_many a), va_rf (S.O_DefaultFundModel.f_owners a), va_rf v, va_rf (S.O_DefaultFundModel.f_cameAt a), .int (S.O_DefaultFundModel.f_came a), .int (S.O_DefaultFundModel.f_clients a), .int (S.O_DefaultFundModel.f_capitalNow a), .int (S.O_DefaultFundModel.f_lossNow a), .int (S.O_DefaultFundModel.f_uncoveredNow a), .int (S.O_DefaultFundModel.f_failed a), .int (S.O_DefaultFundModel.f_book a), va_rf (S.O_DefaultFundModel.f_bids a), va_rf (S.O_DefaultFundModel.f_sharesThen a), va_rf (S.O_DefaultFundModel.f_weights a), va_rf (S.O_DefaultFundModel.f_bounds a), va_rf (S.O_DefaultFundModel.f_parts a), .int (S.O_DefaultFundModel.f_thrown a)])) b = wPF cyI cyO51b95 cyO28f5b { S with O_DefaultFundModel := { S.O_DefaultFundModel with f_lotsOf := va_up S.O_DefaultFundModel.f_lotsOf a v } } b := by by_cases hb : b = a <;> first | (simp only [wPF, va_up_ne _ _ hb]; done) | (simp only [wPF, va_up, if_neg hb]; done) | simp [wPF, va_re, va_up, va_rf, hb, h]
theorem wPu_O_DefaultFundModel_f_lotsOf (cyI : ClassId) (cyO51b95 : ClassId) (cyO28f5b : ClassId) (X : va_W) (S : wPS) {A : Nat → Prop} {a k : Nat} (hD : va_D A (X ++ va_pl S.L (wPF cyI cyO51b95 cyO28f5b S))) (hL : a ∈ S.L) (h : S.K a = 4) (hk : (X ++ va_pl S.L (wPF cyI cyO51b95 cyO28f5b S))[k]? = some (a, wPF cyI cyO51b95 cyO28f5b S a)) (v : Option Nat) : (X ++ va_pl S.L (wPF cyI cyO51b95 cyO28f5b S)).set k (a, .inr (4, [va_rf (S.O_DefaultFundModel.f_margins a), va_rf (S.O_DefaultFundModel.f_sharesOf a), va_rf (S.O_DefaultFundModel.f_rooms a), va_rf (S.O_DefaultFundModel.f_gains a), va_rf (S.O_DefaultFundModel.f_tested a), va_rf (S.O_DefaultFundModel.f_states a), va_rf (S.O_DefaultFundModel.f_juniors a), va_rf (S.O_DefaultFundModel.f_assessedBy a), va_rf (S.O_DefaultFundModel.f_wonBy a), .int (S.O_DefaultFundModel.f_many a), va_rf (S.O_DefaultFundModel.f_owners a), va_rf v, va_rf (S.O_DefaultFundModel.f_cameAt a), .int (S.O_DefaultFundModel.f_came a), .int (S.O_DefaultFundModel.f_clients a), .int (S.O_DefaultFundModel.f_capitalNow a), .int (S.O_DefaultFundModel.f_lossNow a), .int (S.O_DefaultFundModel.f_uncoveredNow a), .int (S.O_DefaultFundModel.f_failed a), .int (S.O_DefaultFundModel.f_book a), va_rf (S.O_DefaultFundModel.f_bids a), va_rf (S.O_DefaultFundModel.f_sharesThen a), va_rf (S.O_DefaultFundModel.f_weights a), va_rf (S.O_DefaultFundModel.f_bounds a), va_rf (S.O_DefaultFundModel.f_parts a), .int (S.O_DefaultFundModel.f_thrown a)])) = X ++ va_pl S.L (wPF cyI cyO51b95 cyO28f5b { S with O_DefaultFundModel := { S.O_DefaultFundModel with f_lotsOf := va_up S.O_DefaultFundModel.f_lotsOf a v } }) := by
  rw [va_pl_set hD hL hk]
  exact congrArg (fun l => X ++ l) (va_pl_congr (wSt_O_DefaultFundModel_f_lotsOf cyI cyO51b95 cyO28f5b S h v))
theorem wSt_O_DefaultFundModel_f_cameAt (cyI : ClassId) (cyO51b95 : ClassId) (cyO28f5b : ClassId) (S : wPS) {a : Nat} (h : S.K a = 4) (v : Option Nat) (b : Nat) : va_up (wPF cyI cyO51b95 cyO28f5b S) a (.inr (4, [va_rf (S.O_DefaultFundModel.f_margins a), va_rf (S.O_DefaultFundModel.f_sharesOf a), va_rf (S.O_DefaultFundModel.f_rooms a), va_rf (S.O_DefaultFundModel.f_gains a), va_rf (S.O_DefaultFundModel.f_tested a), va_rf (S.O_DefaultFundModel.f_states a), va_rf (S.O_DefaultFundModel.f_juniors a), va_rf (S.O_DefaultFundModel.f_assessedBy a), va_rf (S.O_DefaultFundModel.f_wonBy a), .int (S.O_DefaultFundModel.f_many a), va_rf (S.O_DefaultFundModel.f_owners a), va_rf (S.O_DefaultFundModel.f_lotsOf a), va_rf v, .int (S.O_DefaultFundModel.f_came a), .int (S.O_DefaultFundModel.f_clients a), .int (S.O_DefaultFundModel.f_capitalNow a), .int (S.O_DefaultFundModel.f_lossNow a), .int (S.O_DefaultFundModel.f_uncoveredNow a), .int (S.O_DefaultFundModel.f_failed a), .int (S.O_DefaultFundModel.f_book a), va_rf (S.O_DefaultFundModel.f_bids a), va_rf (S.O_DefaultFundModel.f_sharesThen a), va_rf (S.O_DefaultFundModel.f_weights a), va_rf (S.O_DefaultFundModel.f_bounds a), va_rf (S.O_DefaultFundModel.f_parts a), .int (S.O_DefaultFundModel.f_thrown a)])) b = wPF cyI cyO51b95 cyO28f5b { S with O_DefaultFundModel := { S.O_DefaultFundModel with f_cameAt := va_up S.O_DefaultFundModel.f_cameAt a v } } b := by by_cases hb : b = a <;> first | (simp only [wPF, va_up_ne _ _ hb]; done) | (simp only [wPF, va_up, if_neg hb]; done) | simp [wPF, va_re, va_up, va_rf, hb, h]
theorem wPu_O_DefaultFundModel_f_cameAt (cyI : ClassId) (cyO51b95 : ClassId) (cyO28f5b : ClassId) (X : va_W) (S : wPS) {A : Nat → Prop} {a k : Nat} (hD : va_D A (X ++ va_pl S.L (wPF cyI cyO51b95 cyO28f5b S))) (hL : a ∈ S.L) (h : S.K a = 4) (hk : (X ++ va_pl S.L (wPF cyI cyO51b95 cyO28f5b S))[k]? = some (a, wPF cyI cyO51b95 cyO28f5b S a)) (v : Option Nat) : (X ++ va_pl S.L (wPF cyI cyO51b95 cyO28f5b S)).set k (a, .inr (4, [va_rf (S.O_DefaultFundModel.f_margins a), va_rf (S.O_DefaultFundModel.f_sharesOf a), va_rf (S.O_DefaultFundModel.f_rooms a), va_rf (S.O_DefaultFundModel.f_gains a), va_rf (S.O_DefaultFundModel.f_tested a), va_rf (S.O_DefaultFundModel.f_states a), va_rf (S.O_DefaultFundModel.f_juniors a), va_rf (S.O_DefaultFundModel.f_assessedBy a), va_rf (S.O_DefaultFundModel.f_wonBy a), .int (S.O_DefaultFundModel.f_many a), va_rf (S.O_DefaultFundModel.f_owners a), va_rf (S.O_DefaultFundModel.f_lotsOf a), va_rf v, .int (S.O_DefaultFundModel.f_came a), .int (S.O_DefaultFundModel.f_clients a), .int (S.O_DefaultFundModel.f_capitalNow a), .int (S.O_DefaultFundModel.f_lossNow a), .int (S.O_DefaultFundModel.f_uncoveredNow a), .int (S.O_DefaultFundModel.f_failed a), .int (S.O_DefaultFundModel.f_book a), va_rf (S.O_DefaultFundModel.f_bids a), va_rf (S.O_DefaultFundModel.f_sharesThen a), va_rf (S.O_DefaultFundModel.f_weights a), va_rf (S.O_DefaultFundModel.f_bounds a), va_rf (S.O_DefaultFundModel.f_parts a), .int (S.O_DefaultFundModel.f_thrown a)])) = X ++ va_pl S.L (wPF cyI cyO51b95 cyO28f5b { S with O_DefaultFundModel := { S.O_DefaultFundModel with f_cameAt := va_up S.O_DefaultFundModel.f_cameAt a v } }) := by
  rw [va_pl_set hD hL hk]
  exact congrArg (fun l => X ++ l) (va_pl_congr (wSt_O_DefaultFundModel_f_cameAt cyI cyO51b95 cyO28f5b S h v))
theorem wSt_O_DefaultFundModel_f_came (cyI : ClassId) (cyO51b95 : ClassId) (cyO28f5b : ClassId) (S : wPS) {a : Nat} (h : S.K a = 4) (v : Int32) (b : Nat) : va_up (wPF cyI cyO51b95 cyO28f5b S) a (.inr (4, [va_rf (S.O_DefaultFundModel.f_margins a), va_rf (S.O_DefaultFundModel.f_sharesOf a), va_rf (S.O_DefaultFundModel.f_rooms a), va_rf (S.O_DefaultFundModel.f_gains a), va_rf (S.O_DefaultFundModel.f_tested a), va_rf (S.O_DefaultFundModel.f_states a), va_rf (S.O_DefaultFundModel.f_juniors a), va_rf (S.O_DefaultFundModel.f_assessedBy a), va_rf (S.O_DefaultFundModel.f_wonBy a), .int (S.O_DefaultFundModel.f_many a), va_rf (S.O_DefaultFundModel.f_owners a), va_rf (S.O_DefaultFundModel.f_lotsOf a), va_rf (S.O_DefaultFundModel.f_cameAt a), .int v, .int (S.O_DefaultFundModel.f_clients a), .int (S.O_DefaultFundModel.f_capitalNow a), .int (S.O_DefaultFundModel.f_lossNow a), .int (S.O_DefaultFundModel.f_uncoveredNow a), .int (S.O_DefaultFundModel.f_failed a), .int (S.O_DefaultFundModel.f_book a), va_rf (S.O_DefaultFundModel.f_bids a), va_rf (S.O_DefaultFundModel.f_sharesThen a), va_rf (S.O_DefaultFundModel.f_weights a), va_rf (S.O_DefaultFundModel.f_bounds a), va_rf (S.O_DefaultFundModel.f_parts a), .int (S.O_DefaultFundModel.f_thrown a)])) b = wPF cyI cyO51b95 cyO28f5b { S with O_DefaultFundModel := { S.O_DefaultFundModel with f_came := va_up S.O_DefaultFundModel.f_came a v } } b := by by_cases hb : b = a <;> first | (simp only [wPF, va_up_ne _ _ hb]; done) | (simp only [wPF, va_up, if_neg hb]; done) | simp [wPF, va_re, va_up, va_rf, hb, h]
theorem wPu_O_DefaultFundModel_f_came (cyI : ClassId) (cyO51b95 : ClassId) (cyO28f5b : ClassId) (X : va_W) (S : wPS) {A : Nat → Prop} {a k : Nat} (hD : va_D A (X ++ va_pl S.L (wPF cyI cyO51b95 cyO28f5b S))) (hL : a ∈ S.L) (h : S.K a = 4) (hk : (X ++ va_pl S.L (wPF cyI cyO51b95 cyO28f5b S))[k]? = some (a, wPF cyI cyO51b95 cyO28f5b S a)) (v : Int32) : (X ++ va_pl S.L (wPF cyI cyO51b95 cyO28f5b S)).set k (a, .inr (4, [va_rf (S.O_DefaultFundModel.f_margins a), va_rf (S.O_DefaultFundModel.f_sharesOf a), va_rf (S.O_DefaultFundModel.f_rooms a), va_rf (S.O_DefaultFundModel.f_gains a), va_rf (S.O_DefaultFundModel.f_tested a), va_rf (S.O_DefaultFundModel.f_states a), va_rf (S.O_DefaultFundModel.f_juniors a), va_rf (S.O_DefaultFundModel.f_assessedBy a), va_rf (S.O_DefaultFundModel.f_wonBy a), .int (S.O_DefaultFundModel.f_many a), va_rf (S.O_DefaultFundModel.f_owners a), va_rf (S.O_DefaultFundModel.f_lotsOf a), va_rf (S.O_DefaultFundModel.f_cameAt a), .int v, .int (S.O_DefaultFundModel.f_clients a), .int (S.O_DefaultFundModel.f_capitalNow a), .int (S.O_DefaultFundModel.f_lossNow a), .int (S.O_DefaultFundModel.f_uncoveredNow a), .int (S.O_DefaultFundModel.f_failed a), .int (S.O_DefaultFundModel.f_book a), va_rf (S.O_DefaultFundModel.f_bids a), va_rf (S.O_DefaultFundModel.f_sharesThen a), va_rf (S.O_DefaultFundModel.f_weights a), va_rf (S.O_DefaultFundModel.f_bounds a), va_rf (S.O_DefaultFundModel.f_parts a), .int (S.O_DefaultFundModel.f_thrown a)])) = X ++ va_pl S.L (wPF cyI cyO51b95 cyO28f5b { S with O_DefaultFundModel := { S.O_DefaultFundModel with f_came := va_up S.O_DefaultFundModel.f_came a v } }) := by
  rw [va_pl_set hD hL hk]
  exact congrArg (fun l => X ++ l) (va_pl_congr (wSt_O_DefaultFundModel_f_came cyI cyO51b95 cyO28f5b S h v))
theorem wSt_O_DefaultFundModel_f_clients (cyI : ClassId) (cyO51b95 : ClassId) (cyO28f5b : ClassId) (S : wPS) {a : Nat} (h : S.K a = 4) (v : Int32) (b : Nat) : va_up (wPF cyI cyO51b95 cyO28f5b S) a (.inr (4, [va_rf (S.O_DefaultFundModel.f_margins a), va_rf (S.O_DefaultFundModel.f_sharesOf a), va_rf (S.O_DefaultFundModel.f_rooms a), va_rf (S.O_DefaultFundModel.f_gains a), va_rf (S.O_DefaultFundModel.f_tested a), va_rf (S.O_DefaultFundModel.f_states a), va_rf (S.O_DefaultFundModel.f_juniors a), va_rf (S.O_DefaultFundModel.f_assessedBy a), va_rf (S.O_DefaultFundModel.f_wonBy a), .int (S.O_DefaultFundModel.f_many a), va_rf (S.O_DefaultFundModel.f_owners a), va_rf (S.O_DefaultFundModel.f_lotsOf a), va_rf (S.O_DefaultFundModel.f_cameAt a), .int (S.O_DefaultFundModel.f_came a), .int v, .int (S.O_DefaultFundModel.f_capitalNow a), .int (S.O_DefaultFundModel.f_lossNow a), .int (S.O_DefaultFundModel.f_uncoveredNow a), .int (S.O_DefaultFundModel.f_failed a), .int (S.O_DefaultFundModel.f_book a), va_rf (S.O_DefaultFundModel.f_bids a), va_rf (S.O_DefaultFundModel.f_sharesThen a), va_rf (S.O_DefaultFundModel.f_weights a), va_rf (S.O_DefaultFundModel.f_bounds a), va_rf (S.O_DefaultFundModel.f_parts a), .int (S.O_DefaultFundModel.f_thrown a)])) b = wPF cyI cyO51b95 cyO28f5b { S with O_DefaultFundModel := { S.O_DefaultFundModel with f_clients := va_up S.O_DefaultFundModel.f_clients a v } } b := by by_cases hb : b = a <;> first | (simp only [wPF, va_up_ne _ _ hb]; done) | (simp only [wPF, va_up, if_neg hb]; done) | simp [wPF, va_re, va_up, va_rf, hb, h]
theorem wPu_O_DefaultFundModel_f_clients (cyI : ClassId) (cyO51b95 : ClassId) (cyO28f5b : ClassId) (X : va_W) (S : wPS) {A : Nat → Prop} {a k : Nat} (hD : va_D A (X ++ va_pl S.L (wPF cyI cyO51b95 cyO28f5b S))) (hL : a ∈ S.L) (h : S.K a = 4) (hk : (X ++ va_pl S.L (wPF cyI cyO51b95 cyO28f5b S))[k]? = some (a, wPF cyI cyO51b95 cyO28f5b S a)) (v : Int32) : (X ++ va_pl S.L (wPF cyI cyO51b95 cyO28f5b S)).set k (a, .inr (4, [va_rf (S.O_DefaultFundModel.f_margins a), va_rf (S.O_DefaultFundModel.f_sharesOf a), va_rf (S.O_DefaultFundModel.f_rooms a), va_rf (S.O_DefaultFundModel.f_gains a), va_rf (S.O_DefaultFundModel.f_tested a), va_rf (S.O_DefaultFundModel.f_states a), va_rf (S.O_DefaultFundModel.f_juniors a), va_rf (S.O_DefaultFundModel.f_assessedBy a), va_rf (S.O_DefaultFundModel.f_wonBy a), .int (S.O_DefaultFundModel.f_many a), va_rf (S.O_DefaultFundModel.f_owners a), va_rf (S.O_DefaultFundModel.f_lotsOf a), va_rf (S.O_DefaultFundModel.f_cameAt a), .int (S.O_DefaultFundModel.f_came a), .int v, .int (S.O_DefaultFundModel.f_capitalNow a), .int (S.O_DefaultFundModel.f_lossNow a), .int (S.O_DefaultFundModel.f_uncoveredNow a), .int (S.O_DefaultFundModel.f_failed a), .int (S.O_DefaultFundModel.f_book a), va_rf (S.O_DefaultFundModel.f_bids a), va_rf (S.O_DefaultFundModel.f_sharesThen a), va_rf (S.O_DefaultFundModel.f_weights a), va_rf (S.O_DefaultFundModel.f_bounds a), va_rf (S.O_DefaultFundModel.f_parts a), .int (S.O_DefaultFundModel.f_thrown a)])) = X ++ va_pl S.L (wPF cyI cyO51b95 cyO28f5b { S with O_DefaultFundModel := { S.O_DefaultFundModel with f_clients := va_up S.O_DefaultFundModel.f_clients a v } }) := by
  rw [va_pl_set hD hL hk]
  exact congrArg (fun l => X ++ l) (va_pl_congr (wSt_O_DefaultFundModel_f_clients cyI cyO51b95 cyO28f5b S h v))
theorem wSt_O_DefaultFundModel_f_capitalNow (cyI : ClassId) (cyO51b95 : ClassId) (cyO28f5b : ClassId) (S : wPS) {a : Nat} (h : S.K a = 4) (v : Int32) (b : Nat) : va_up (wPF cyI cyO51b95 cyO28f5b S) a (.inr (4, [va_rf (S.O_DefaultFundModel.f_margins a), va_rf (S.O_DefaultFundModel.f_sharesOf a), va_rf (S.O_DefaultFundModel.f_rooms a), va_rf (S.O_DefaultFundModel.f_gains a), va_rf (S.O_DefaultFundModel.f_tested a), va_rf (S.O_DefaultFundModel.f_states a), va_rf (S.O_DefaultFundModel.f_juniors a), va_rf (S.O_DefaultFundModel.f_assessedBy a), va_rf (S.O_DefaultFundModel.f_wonBy a), .int (S.O_DefaultFundModel.f_many a), va_rf (S.O_DefaultFundModel.f_owners a), va_rf (S.O_DefaultFundModel.f_lotsOf a), va_rf (S.O_DefaultFundModel.f_cameAt a), .int (S.O_DefaultFundModel.f_came a), .int (S.O_DefaultFundModel.f_clients a), .int v, .int (S.O_DefaultFundModel.f_lossNow a), .int (S.O_DefaultFundModel.f_uncoveredNow a), .int (S.O_DefaultFundModel.f_failed a), .int (S.O_DefaultFundModel.f_book a), va_rf (S.O_DefaultFundModel.f_bids a), va_rf (S.O_DefaultFundModel.f_sharesThen a), va_rf (S.O_DefaultFundModel.f_weights a), va_rf (S.O_DefaultFundModel.f_bounds a), va_rf (S.O_DefaultFundModel.f_parts a), .int (S.O_DefaultFundModel.f_thrown a)])) b = wPF cyI cyO51b95 cyO28f5b { S with O_DefaultFundModel := { S.O_DefaultFundModel with f_capitalNow := va_up S.O_DefaultFundModel.f_capitalNow a v } } b := by by_cases hb : b = a <;> first | (simp only [wPF, va_up_ne _ _ hb]; done) | (simp only [wPF, va_up, if_neg hb]; done) | simp [wPF, va_re, va_up, va_rf, hb, h]
theorem wPu_O_DefaultFundModel_f_capitalNow (cyI : ClassId) (cyO51b95 : ClassId) (cyO28f5b : ClassId) (X : va_W) (S : wPS) {A : Nat → Prop} {a k : Nat} (hD : va_D A (X ++ va_pl S.L (wPF cyI cyO51b95 cyO28f5b S))) (hL : a ∈ S.L) (h : S.K a = 4) (hk : (X ++ va_pl S.L (wPF cyI cyO51b95 cyO28f5b S))[k]? = some (a, wPF cyI cyO51b95 cyO28f5b S a)) (v : Int32) : (X ++ va_pl S.L (wPF cyI cyO51b95 cyO28f5b S)).set k (a, .inr (4, [va_rf (S.O_DefaultFundModel.f_margins a), va_rf (S.O_DefaultFundModel.f_sharesOf a), va_rf (S.O_DefaultFundModel.f_rooms a), va_rf (S.O_DefaultFundModel.f_gains a), va_rf (S.O_DefaultFundModel.f_tested a), va_rf (S.O_DefaultFundModel.f_states a), va_rf (S.O_DefaultFundModel.f_juniors a), va_rf (S.O_DefaultFundModel.f_assessedBy a), va_rf (S.O_DefaultFundModel.f_wonBy a), .int (S.O_DefaultFundModel.f_many a), va_rf (S.O_DefaultFundModel.f_owners a), va_rf (S.O_DefaultFundModel.f_lotsOf a), va_rf (S.O_DefaultFundModel.f_cameAt a), .int (S.O_DefaultFundModel.f_came a), .int (S.O_DefaultFundModel.f_clients a), .int v, .int (S.O_DefaultFundModel.f_lossNow a), .int (S.O_DefaultFundModel.f_uncoveredNow a), .int (S.O_DefaultFundModel.f_failed a), .int (S.O_DefaultFundModel.f_book a), va_rf (S.O_DefaultFundModel.f_bids a), va_rf (S.O_DefaultFundModel.f_sharesThen a), va_rf (S.O_DefaultFundModel.f_weights a), va_rf (S.O_DefaultFundModel.f_bounds a), va_rf (S.O_DefaultFundModel.f_parts a), .int (S.O_DefaultFundModel.f_thrown a)])) = X ++ va_pl S.L (wPF cyI cyO51b95 cyO28f5b { S with O_DefaultFundModel := { S.O_DefaultFundModel with f_capitalNow := va_up S.O_DefaultFundModel.f_capitalNow a v } }) := by
  rw [va_pl_set hD hL hk]
  exact congrArg (fun l => X ++ l) (va_pl_congr (wSt_O_DefaultFundModel_f_capitalNow cyI cyO51b95 cyO28f5b S h v))
theorem wSt_O_DefaultFundModel_f_lossNow (cyI : ClassId) (cyO51b95 : ClassId) (cyO28f5b : ClassId) (S : wPS) {a : Nat} (h : S.K a = 4) (v : Int32) (b : Nat) : va_up (wPF cyI cyO51b95 cyO28f5b S) a (.inr (4, [va_rf (S.O_DefaultFundModel.f_margins a), va_rf (S.O_DefaultFundModel.f_sharesOf a), va_rf (S.O_DefaultFundModel.f_rooms a), va_rf (S.O_DefaultFundModel.f_gains a), va_rf (S.O_DefaultFundModel.f_tested a), va_rf (S.O_DefaultFundModel.f_states a), va_rf (S.O_DefaultFundModel.f_juniors a), va_rf (S.O_DefaultFundModel.f_assessedBy a), va_rf (S.O_DefaultFundModel.f_wonBy a), .int (S.O_DefaultFundModel.f_many a), va_rf (S.O_DefaultFundModel.f_owners a), va_rf (S.O_DefaultFundModel.f_lotsOf a), va_rf (S.O_DefaultFundModel.f_cameAt a), .int (S.O_DefaultFundModel.f_came a), .int (S.O_DefaultFundModel.f_clients a), .int (S.O_DefaultFundModel.f_capitalNow a), .int v, .int (S.O_DefaultFundModel.f_uncoveredNow a), .int (S.O_DefaultFundModel.f_failed a), .int (S.O_DefaultFundModel.f_book a), va_rf (S.O_DefaultFundModel.f_bids a), va_rf (S.O_DefaultFundModel.f_sharesThen a), va_rf (S.O_DefaultFundModel.f_weights a), va_rf (S.O_DefaultFundModel.f_bounds a), va_rf (S.O_DefaultFundModel.f_parts a), .int (S.O_DefaultFundModel.f_thrown a)])) b = wPF cyI cyO51b95 cyO28f5b { S with O_DefaultFundModel := { S.O_DefaultFundModel with f_lossNow := va_up S.O_DefaultFundModel.f_lossNow a v } } b := by by_cases hb : b = a <;> first | (simp only [wPF, va_up_ne _ _ hb]; done) | (simp only [wPF, va_up, if_neg hb]; done) | simp [wPF, va_re, va_up, va_rf, hb, h]
theorem wPu_O_DefaultFundModel_f_lossNow (cyI : ClassId) (cyO51b95 : ClassId) (cyO28f5b : ClassId) (X : va_W) (S : wPS) {A : Nat → Prop} {a k : Nat} (hD : va_D A (X ++ va_pl S.L (wPF cyI cyO51b95 cyO28f5b S))) (hL : a ∈ S.L) (h : S.K a = 4) (hk : (X ++ va_pl S.L (wPF cyI cyO51b95 cyO28f5b S))[k]? = some (a, wPF cyI cyO51b95 cyO28f5b S a)) (v : Int32) : (X ++ va_pl S.L (wPF cyI cyO51b95 cyO28f5b S)).set k (a, .inr (4, [va_rf (S.O_DefaultFundModel.f_margins a), va_rf (S.O_DefaultFundModel.f_sharesOf a), va_rf (S.O_DefaultFundModel.f_rooms a), va_rf (S.O_DefaultFundModel.f_gains a), va_rf (S.O_DefaultFundModel.f_tested a), va_rf (S.O_DefaultFundModel.f_states a), va_rf (S.O_DefaultFundModel.f_juniors a), va_rf (S.O_DefaultFundModel.f_assessedBy a), va_rf (S.O_DefaultFundModel.f_wonBy a), .int (S.O_DefaultFundModel.f_many a), va_rf (S.O_DefaultFundModel.f_owners a), va_rf (S.O_DefaultFundModel.f_lotsOf a), va_rf (S.O_DefaultFundModel.f_cameAt a), .int (S.O_DefaultFundModel.f_came a), .int (S.O_DefaultFundModel.f_clients a), .int (S.O_DefaultFundModel.f_capitalNow a), .int v, .int (S.O_DefaultFundModel.f_uncoveredNow a), .int (S.O_DefaultFundModel.f_failed a), .int (S.O_DefaultFundModel.f_book a), va_rf (S.O_DefaultFundModel.f_bids a), va_rf (S.O_DefaultFundModel.f_sharesThen a), va_rf (S.O_DefaultFundModel.f_weights a), va_rf (S.O_DefaultFundModel.f_bounds a), va_rf (S.O_DefaultFundModel.f_parts a), .int (S.O_DefaultFundModel.f_thrown a)])) = X ++ va_pl S.L (wPF cyI cyO51b95 cyO28f5b { S with O_DefaultFundModel := { S.O_DefaultFundModel with f_lossNow := va_up S.O_DefaultFundModel.f_lossNow a v } }) := by
  rw [va_pl_set hD hL hk]
  exact congrArg (fun l => X ++ l) (va_pl_congr (wSt_O_DefaultFundModel_f_lossNow cyI cyO51b95 cyO28f5b S h v))
theorem wSt_O_DefaultFundModel_f_uncoveredNow (cyI : ClassId) (cyO51b95 : ClassId) (cyO28f5b : ClassId) (S : wPS) {a : Nat} (h : S.K a = 4) (v : Int32) (b : Nat) : va_up (wPF cyI cyO51b95 cyO28f5b S) a (.inr (4, [va_rf (S.O_DefaultFundModel.f_margins a), va_rf (S.O_DefaultFundModel.f_sharesOf a), va_rf (S.O_DefaultFundModel.f_rooms a), va_rf (S.O_DefaultFundModel.f_gains a), va_rf (S.O_DefaultFundModel.f_tested a), va_rf (S.O_DefaultFundModel.f_states a), va_rf (S.O_DefaultFundModel.f_juniors a), va_rf (S.O_DefaultFundModel.f_assessedBy a), va_rf (S.O_DefaultFundModel.f_wonBy a), .int (S.O_DefaultFundModel.f_many a), va_rf (S.O_DefaultFundModel.f_owners a), va_rf (S.O_DefaultFundModel.f_lotsOf a), va_rf (S.O_DefaultFundModel.f_cameAt a), .int (S.O_DefaultFundModel.f_came a), .int (S.O_DefaultFundModel.f_clients a), .int (S.O_DefaultFundModel.f_capitalNow a), .int (S.O_DefaultFundModel.f_lossNow a), .int v, .int (S.O_DefaultFundModel.f_failed a), .int (S.O_DefaultFundModel.f_book a), va_rf (S.O_DefaultFundModel.f_bids a), va_rf (S.O_DefaultFundModel.f_sharesThen a), va_rf (S.O_DefaultFundModel.f_weights a), va_rf (S.O_DefaultFundModel.f_bounds a), va_rf (S.O_DefaultFundModel.f_parts a), .int (S.O_DefaultFundModel.f_thrown a)])) b = wPF cyI cyO51b95 cyO28f5b { S with O_DefaultFundModel := { S.O_DefaultFundModel with f_uncoveredNow := va_up S.O_DefaultFundModel.f_uncoveredNow a v } } b := by by_cases hb : b = a <;> first | (simp only [wPF, va_up_ne _ _ hb]; done) | (simp only [wPF, va_up, if_neg hb]; done) | simp [wPF, va_re, va_up, va_rf, hb, h]
theorem wPu_O_DefaultFundModel_f_uncoveredNow (cyI : ClassId) (cyO51b95 : ClassId) (cyO28f5b : ClassId) (X : va_W) (S : wPS) {A : Nat → Prop} {a k : Nat} (hD : va_D A (X ++ va_pl S.L (wPF cyI cyO51b95 cyO28f5b S))) (hL : a ∈ S.L) (h : S.K a = 4) (hk : (X ++ va_pl S.L (wPF cyI cyO51b95 cyO28f5b S))[k]? = some (a, wPF cyI cyO51b95 cyO28f5b S a)) (v : Int32) : (X ++ va_pl S.L (wPF cyI cyO51b95 cyO28f5b S)).set k (a, .inr (4, [va_rf (S.O_DefaultFundModel.f_margins a), va_rf (S.O_DefaultFundModel.f_sharesOf a), va_rf (S.O_DefaultFundModel.f_rooms a), va_rf (S.O_DefaultFundModel.f_gains a), va_rf (S.O_DefaultFundModel.f_tested a), va_rf (S.O_DefaultFundModel.f_states a), va_rf (S.O_DefaultFundModel.f_juniors a), va_rf (S.O_DefaultFundModel.f_assessedBy a), va_rf (S.O_DefaultFundModel.f_wonBy a), .int (S.O_DefaultFundModel.f_many a), va_rf (S.O_DefaultFundModel.f_owners a), va_rf (S.O_DefaultFundModel.f_lotsOf a), va_rf (S.O_DefaultFundModel.f_cameAt a), .int (S.O_DefaultFundModel.f_came a), .int (S.O_DefaultFundModel.f_clients a), .int (S.O_DefaultFundModel.f_capitalNow a), .int (S.O_DefaultFundModel.f_lossNow a), .int v, .int (S.O_DefaultFundModel.f_failed a), .int (S.O_DefaultFundModel.f_book a), va_rf (S.O_DefaultFundModel.f_bids a), va_rf (S.O_DefaultFundModel.f_sharesThen a), va_rf (S.O_DefaultFundModel.f_weights a), va_rf (S.O_DefaultFundModel.f_bounds a), va_rf (S.O_DefaultFundModel.f_parts a), .int (S.O_DefaultFundModel.f_thrown a)])) = X ++ va_pl S.L (wPF cyI cyO51b95 cyO28f5b { S with O_DefaultFundModel := { S.O_DefaultFundModel with f_uncoveredNow := va_up S.O_DefaultFundModel.f_uncoveredNow a v } }) := by
  rw [va_pl_set hD hL hk]
  exact congrArg (fun l => X ++ l) (va_pl_congr (wSt_O_DefaultFundModel_f_uncoveredNow cyI cyO51b95 cyO28f5b S h v))
theorem wSt_O_DefaultFundModel_f_failed (cyI : ClassId) (cyO51b95 : ClassId) (cyO28f5b : ClassId) (S : wPS) {a : Nat} (h : S.K a = 4) (v : Int32) (b : Nat) : va_up (wPF cyI cyO51b95 cyO28f5b S) a (.inr (4, [va_rf (S.O_DefaultFundModel.f_margins a), va_rf (S.O_DefaultFundModel.f_sharesOf a), va_rf (S.O_DefaultFundModel.f_rooms a), va_rf (S.O_DefaultFundModel.f_gains a), va_rf (S.O_DefaultFundModel.f_tested a), va_rf (S.O_DefaultFundModel.f_states a), va_rf (S.O_DefaultFundModel.f_juniors a), va_rf (S.O_DefaultFundModel.f_assessedBy a), va_rf (S.O_DefaultFundModel.f_wonBy a), .int (S.O_DefaultFundModel.f_many a), va_rf (S.O_DefaultFundModel.f_owners a), va_rf (S.O_DefaultFundModel.f_lotsOf a), va_rf (S.O_DefaultFundModel.f_cameAt a), .int (S.O_DefaultFundModel.f_came a), .int (S.O_DefaultFundModel.f_clients a), .int (S.O_DefaultFundModel.f_capitalNow a), .int (S.O_DefaultFundModel.f_lossNow a), .int (S.O_DefaultFundModel.f_uncoveredNow a), .int v, .int (S.O_DefaultFundModel.f_book a), va_rf (S.O_DefaultFundModel.f_bids a), va_rf (S.O_DefaultFundModel.f_sharesThen a), va_rf (S.O_DefaultFundModel.f_weights a), va_rf (S.O_DefaultFundModel.f_bounds a), va_rf (S.O_DefaultFundModel.f_parts a), .int (S.O_DefaultFundModel.f_thrown a)])) b = wPF cyI cyO51b95 cyO28f5b { S with O_DefaultFundModel := { S.O_DefaultFundModel with f_failed := va_up S.O_DefaultFundModel.f_failed a v } } b := by by_cases hb : b = a <;> first | (simp only [wPF, va_up_ne _ _ hb]; done) | (simp only [wPF, va_up, if_neg hb]; done) | simp [wPF, va_re, va_up, va_rf, hb, h]
theorem wPu_O_DefaultFundModel_f_failed (cyI : ClassId) (cyO51b95 : ClassId) (cyO28f5b : ClassId) (X : va_W) (S : wPS) {A : Nat → Prop} {a k : Nat} (hD : va_D A (X ++ va_pl S.L (wPF cyI cyO51b95 cyO28f5b S))) (hL : a ∈ S.L) (h : S.K a = 4) (hk : (X ++ va_pl S.L (wPF cyI cyO51b95 cyO28f5b S))[k]? = some (a, wPF cyI cyO51b95 cyO28f5b S a)) (v : Int32) : (X ++ va_pl S.L (wPF cyI cyO51b95 cyO28f5b S)).set k (a, .inr (4, [va_rf (S.O_DefaultFundModel.f_margins a), va_rf (S.O_DefaultFundModel.f_sharesOf a), va_rf (S.O_DefaultFundModel.f_rooms a), va_rf (S.O_DefaultFundModel.f_gains a), va_rf (S.O_DefaultFundModel.f_tested a), va_rf (S.O_DefaultFundModel.f_states a), va_rf (S.O_DefaultFundModel.f_juniors a), va_rf (S.O_DefaultFundModel.f_assessedBy a), va_rf (S.O_DefaultFundModel.f_wonBy a), .int (S.O_DefaultFundModel.f_many a), va_rf (S.O_DefaultFundModel.f_owners a), va_rf (S.O_DefaultFundModel.f_lotsOf a), va_rf (S.O_DefaultFundModel.f_cameAt a), .int (S.O_DefaultFundModel.f_came a), .int (S.O_DefaultFundModel.f_clients a), .int (S.O_DefaultFundModel.f_capitalNow a), .int (S.O_DefaultFundModel.f_lossNow a), .int (S.O_DefaultFundModel.f_uncoveredNow a), .int v, .int (S.O_DefaultFundModel.f_book a), va_rf (S.O_DefaultFundModel.f_bids a), va_rf (S.O_DefaultFundModel.f_sharesThen a), va_rf (S.O_DefaultFundModel.f_weights a), va_rf (S.O_DefaultFundModel.f_bounds a), va_rf (S.O_DefaultFundModel.f_parts a), .int (S.O_DefaultFundModel.f_thrown a)])) = X ++ va_pl S.L (wPF cyI cyO51b95 cyO28f5b { S with O_DefaultFundModel := { S.O_DefaultFundModel with f_failed := va_up S.O_DefaultFundModel.f_failed a v } }) := by
  rw [va_pl_set hD hL hk]
  exact congrArg (fun l => X ++ l) (va_pl_congr (wSt_O_DefaultFundModel_f_failed cyI cyO51b95 cyO28f5b S h v))
theorem wSt_O_DefaultFundModel_f_book (cyI : ClassId) (cyO51b95 : ClassId) (cyO28f5b : ClassId) (S : wPS) {a : Nat} (h : S.K a = 4) (v : Int32) (b : Nat) : va_up (wPF cyI cyO51b95 cyO28f5b S) a (.inr (4, [va_rf (S.O_DefaultFundModel.f_margins a), va_rf (S.O_DefaultFundModel.f_sharesOf a), va_rf (S.O_DefaultFundModel.f_rooms a), va_rf (S.O_DefaultFundModel.f_gains a), va_rf (S.O_DefaultFundModel.f_tested a), va_rf (S.O_DefaultFundModel.f_states a), va_rf (S.O_DefaultFundModel.f_juniors a), va_rf (S.O_DefaultFundModel.f_assessedBy a), va_rf (S.O_DefaultFundModel.f_wonBy a), .int (S.O_DefaultFundModel.f_many a), va_rf (S.O_DefaultFundModel.f_owners a), va_rf (S.O_DefaultFundModel.f_lotsOf a), va_rf (S.O_DefaultFundModel.f_cameAt a), .int (S.O_DefaultFundModel.f_came a), .int (S.O_DefaultFundModel.f_clients a), .int (S.O_DefaultFundModel.f_capitalNow a), .int (S.O_DefaultFundModel.f_lossNow a), .int (S.O_DefaultFundModel.f_uncoveredNow a), .int (S.O_DefaultFundModel.f_failed a), .int v, va_rf (S.O_DefaultFundModel.f_bids a), va_rf (S.O_DefaultFundModel.f_sharesThen a), va_rf (S.O_DefaultFundModel.f_weights a), va_rf (S.O_DefaultFundModel.f_bounds a), va_rf (S.O_DefaultFundModel.f_parts a), .int (S.O_DefaultFundModel.f_thrown a)])) b = wPF cyI cyO51b95 cyO28f5b { S with O_DefaultFundModel := { S.O_DefaultFundModel with f_book := va_up S.O_DefaultFundModel.f_book a v } } b := by by_cases hb : b = a <;> first | (simp only [wPF, va_up_ne _ _ hb]; done) | (simp only [wPF, va_up, if_neg hb]; done) | simp [wPF, va_re, va_up, va_rf, hb, h]
theorem wPu_O_DefaultFundModel_f_book (cyI : ClassId) (cyO51b95 : ClassId) (cyO28f5b : ClassId) (X : va_W) (S : wPS) {A : Nat → Prop} {a k : Nat} (hD : va_D A (X ++ va_pl S.L (wPF cyI cyO51b95 cyO28f5b S))) (hL : a ∈ S.L) (h : S.K a = 4) (hk : (X ++ va_pl S.L (wPF cyI cyO51b95 cyO28f5b S))[k]? = some (a, wPF cyI cyO51b95 cyO28f5b S a)) (v : Int32) : (X ++ va_pl S.L (wPF cyI cyO51b95 cyO28f5b S)).set k (a, .inr (4, [va_rf (S.O_DefaultFundModel.f_margins a), va_rf (S.O_DefaultFundModel.f_sharesOf a), va_rf (S.O_DefaultFundModel.f_rooms a), va_rf (S.O_DefaultFundModel.f_gains a), va_rf (S.O_DefaultFundModel.f_tested a), va_rf (S.O_DefaultFundModel.f_states a), va_rf (S.O_DefaultFundModel.f_juniors a), va_rf (S.O_DefaultFundModel.f_assessedBy a), va_rf (S.O_DefaultFundModel.f_wonBy a), .int (S.O_DefaultFundModel.f_many a), va_rf (S.O_DefaultFundModel.f_owners a), va_rf (S.O_DefaultFundModel.f_lotsOf a), va_rf (S.O_DefaultFundModel.f_cameAt a), .int (S.O_DefaultFundModel.f_came a), .int (S.O_DefaultFundModel.f_clients a), .int (S.O_DefaultFundModel.f_capitalNow a), .int (S.O_DefaultFundModel.f_lossNow a), .int (S.O_DefaultFundModel.f_uncoveredNow a), .int (S.O_DefaultFundModel.f_failed a), .int v, va_rf (S.O_DefaultFundModel.f_bids a), va_rf (S.O_DefaultFundModel.f_sharesThen a), va_rf (S.O_DefaultFundModel.f_weights a), va_rf (S.O_DefaultFundModel.f_bounds a), va_rf (S.O_DefaultFundModel.f_parts a), .int (S.O_DefaultFundModel.f_thrown a)])) = X ++ va_pl S.L (wPF cyI cyO51b95 cyO28f5b { S with O_DefaultFundModel := { S.O_DefaultFundModel with f_book := va_up S.O_DefaultFundModel.f_book a v } }) := by
  rw [va_pl_set hD hL hk]
  exact congrArg (fun l => X ++ l) (va_pl_congr (wSt_O_DefaultFundModel_f_book cyI cyO51b95 cyO28f5b S h v))
theorem wSt_O_DefaultFundModel_f_bids (cyI : ClassId) (cyO51b95 : ClassId) (cyO28f5b : ClassId) (S : wPS) {a : Nat} (h : S.K a = 4) (v : Option Nat) (b : Nat) : va_up (wPF cyI cyO51b95 cyO28f5b S) a (.inr (4, [va_rf (S.O_DefaultFundModel.f_margins a), va_rf (S.O_DefaultFundModel.f_sharesOf a), va_rf (S.O_DefaultFundModel.f_rooms a), va_rf (S.O_DefaultFundModel.f_gains a), va_rf (S.O_DefaultFundModel.f_tested a), va_rf (S.O_DefaultFundModel.f_states a), va_rf (S.O_DefaultFundModel.f_juniors a), va_rf (S.O_DefaultFundModel.f_assessedBy a), va_rf (S.O_DefaultFundModel.f_wonBy a), .int (S.O_DefaultFundModel.f_many a), va_rf (S.O_DefaultFundModel.f_owners a), va_rf (S.O_DefaultFundModel.f_lotsOf a), va_rf (S.O_DefaultFundModel.f_cameAt a), .int (S.O_DefaultFundModel.f_came a), .int (S.O_DefaultFundModel.f_clients a), .int (S.O_DefaultFundModel.f_capitalNow a), .int (S.O_DefaultFundModel.f_lossNow a), .int (S.O_DefaultFundModel.f_uncoveredNow a), .int (S.O_DefaultFundModel.f_failed a), .int (S.O_DefaultFundModel.f_book a), va_rf v, va_rf (S.O_DefaultFundModel.f_sharesThen a), va_rf (S.O_DefaultFundModel.f_weights a), va_rf (S.O_DefaultFundModel.f_bounds a), va_rf (S.O_DefaultFundModel.f_parts a), .int (S.O_DefaultFundModel.f_thrown a)])) b = wPF cyI cyO51b95 cyO28f5b { S with O_DefaultFundModel := { S.O_DefaultFundModel with f_bids := va_up S.O_DefaultFundModel.f_bids a v } } b := by by_cases hb : b = a <;> first | (simp only [wPF, va_up_ne _ _ hb]; done) | (simp only [wPF, va_up, if_neg hb]; done) | simp [wPF, va_re, va_up, va_rf, hb, h]
theorem wPu_O_DefaultFundModel_f_bids (cyI : ClassId) (cyO51b95 : ClassId) (cyO28f5b : ClassId) (X : va_W) (S : wPS) {A : Nat → Prop} {a k : Nat} (hD : va_D A (X ++ va_pl S.L (wPF cyI cyO51b95 cyO28f5b S))) (hL : a ∈ S.L) (h : S.K a = 4) (hk : (X ++ va_pl S.L (wPF cyI cyO51b95 cyO28f5b S))[k]? = some (a, wPF cyI cyO51b95 cyO28f5b S a)) (v : Option Nat) : (X ++ va_pl S.L (wPF cyI cyO51b95 cyO28f5b S)).set k (a, .inr (4, [va_rf (S.O_DefaultFundModel.f_margins a), va_rf (S.O_DefaultFundModel.f_sharesOf a), va_rf (S.O_DefaultFundModel.f_rooms a), va_rf (S.O_DefaultFundModel.f_gains a), va_rf (S.O_DefaultFundModel.f_tested a), va_rf (S.O_DefaultFundModel.f_states a), va_rf (S.O_DefaultFundModel.f_juniors a), va_rf (S.O_DefaultFundModel.f_assessedBy a), va_rf (S.O_DefaultFundModel.f_wonBy a), .int (S.O_DefaultFundModel.f_many a), va_rf (S.O_DefaultFundModel.f_owners a), va_rf (S.O_DefaultFundModel.f_lotsOf a), va_rf (S.O_DefaultFundModel.f_cameAt a), .int (S.O_DefaultFundModel.f_came a), .int (S.O_DefaultFundModel.f_clients a), .int (S.O_DefaultFundModel.f_capitalNow a), .int (S.O_DefaultFundModel.f_lossNow a), .int (S.O_DefaultFundModel.f_uncoveredNow a), .int (S.O_DefaultFundModel.f_failed a), .int (S.O_DefaultFundModel.f_book a), va_rf v, va_rf (S.O_DefaultFundModel.f_sharesThen a), va_rf (S.O_DefaultFundModel.f_weights a), va_rf (S.O_DefaultFundModel.f_bounds a), va_rf (S.O_DefaultFundModel.f_parts a), .int (S.O_DefaultFundModel.f_thrown a)])) = X ++ va_pl S.L (wPF cyI cyO51b95 cyO28f5b { S with O_DefaultFundModel := { S.O_DefaultFundModel with f_bids := va_up S.O_DefaultFundModel.f_bids a v } }) := by
  rw [va_pl_set hD hL hk]
  exact congrArg (fun l => X ++ l) (va_pl_congr (wSt_O_DefaultFundModel_f_bids cyI cyO51b95 cyO28f5b S h v))
theorem wSt_O_DefaultFundModel_f_sharesThen (cyI : ClassId) (cyO51b95 : ClassId) (cyO28f5b : ClassId) (S : wPS) {a : Nat} (h : S.K a = 4) (v : Option Nat) (b : Nat) : va_up (wPF cyI cyO51b95 cyO28f5b S) a (.inr (4, [va_rf (S.O_DefaultFundModel.f_margins a), va_rf (S.O_DefaultFundModel.f_sharesOf a), va_rf (S.O_DefaultFundModel.f_rooms a), va_rf (S.O_DefaultFundModel.f_gains a), va_rf (S.O_DefaultFundModel.f_tested a), va_rf (S.O_DefaultFundModel.f_states a), va_rf (S.O_DefaultFundModel.f_juniors a), va_rf (S.O_DefaultFundModel.f_assessedBy a), va_rf (S.O_DefaultFundModel.f_wonBy a), .int (S.O_DefaultFundModel.f_many a), va_rf (S.O_DefaultFundModel.f_owners a), va_rf (S.O_DefaultFundModel.f_lotsOf a), va_rf (S.O_DefaultFundModel.f_cameAt a), .int (S.O_DefaultFundModel.f_came a), .int (S.O_DefaultFundModel.f_clients a), .int (S.O_DefaultFundModel.f_capitalNow a), .int (S.O_DefaultFundModel.f_lossNow a), .int (S.O_DefaultFundModel.f_uncoveredNow a), .int (S.O_DefaultFundModel.f_failed a), .int (S.O_DefaultFundModel.f_book a), va_rf (S.O_DefaultFundModel.f_bids a), va_rf v, va_rf (S.O_DefaultFundModel.f_weights a), va_rf (S.O_DefaultFundModel.f_bounds a), va_rf (S.O_DefaultFundModel.f_parts a), .int (S.O_DefaultFundModel.f_thrown a)])) b = wPF cyI cyO51b95 cyO28f5b { S with O_DefaultFundModel := { S.O_DefaultFundModel with f_sharesThen := va_up S.O_DefaultFundModel.f_sharesThen a v } } b := by by_cases hb : b = a <;> first | (simp only [wPF, va_up_ne _ _ hb]; done) | (simp only [wPF, va_up, if_neg hb]; done) | simp [wPF, va_re, va_up, va_rf, hb, h]
theorem wPu_O_DefaultFundModel_f_sharesThen (cyI : ClassId) (cyO51b95 : ClassId) (cyO28f5b : ClassId) (X : va_W) (S : wPS) {A : Nat → Prop} {a k : Nat} (hD : va_D A (X ++ va_pl S.L (wPF cyI cyO51b95 cyO28f5b S))) (hL : a ∈ S.L) (h : S.K a = 4) (hk : (X ++ va_pl S.L (wPF cyI cyO51b95 cyO28f5b S))[k]? = some (a, wPF cyI cyO51b95 cyO28f5b S a)) (v : Option Nat) : (X ++ va_pl S.L (wPF cyI cyO51b95 cyO28f5b S)).set k (a, .inr (4, [va_rf (S.O_DefaultFundModel.f_margins a), va_rf (S.O_DefaultFundModel.f_sharesOf a), va_rf (S.O_DefaultFundModel.f_rooms a), va_rf (S.O_DefaultFundModel.f_gains a), va_rf (S.O_DefaultFundModel.f_tested a), va_rf (S.O_DefaultFundModel.f_states a), va_rf (S.O_DefaultFundModel.f_juniors a), va_rf (S.O_DefaultFundModel.f_assessedBy a), va_rf (S.O_DefaultFundModel.f_wonBy a), .int (S.O_DefaultFundModel.f_many a), va_rf (S.O_DefaultFundModel.f_owners a), va_rf (S.O_DefaultFundModel.f_lotsOf a), va_rf (S.O_DefaultFundModel.f_cameAt a), .int (S.O_DefaultFundModel.f_came a), .int (S.O_DefaultFundModel.f_clients a), .int (S.O_DefaultFundModel.f_capitalNow a), .int (S.O_DefaultFundModel.f_lossNow a), .int (S.O_DefaultFundModel.f_uncoveredNow a), .int (S.O_DefaultFundModel.f_failed a), .int (S.O_DefaultFundModel.f_book a), va_rf (S.O_DefaultFundModel.f_bids a), va_rf v, va_rf (S.O_DefaultFundModel.f_weights a), va_rf (S.O_DefaultFundModel.f_bounds a), va_rf (S.O_DefaultFundModel.f_parts a), .int (S.O_DefaultFundModel.f_thrown a)])) = X ++ va_pl S.L (wPF cyI cyO51b95 cyO28f5b { S with O_DefaultFundModel := { S.O_DefaultFundModel with f_sharesThen := va_up S.O_DefaultFundModel.f_sharesThen a v } }) := by
  rw [va_pl_set hD hL hk]
  exact congrArg (fun l => X ++ l) (va_pl_congr (wSt_O_DefaultFundModel_f_sharesThen cyI cyO51b95 cyO28f5b S h v))
theorem wSt_O_DefaultFundModel_f_weights (cyI : ClassId) (cyO51b95 : ClassId) (cyO28f5b : ClassId) (S : wPS) {a : Nat} (h : S.K a = 4) (v : Option Nat) (b : Nat) : va_up (wPF cyI cyO51b95 cyO28f5b S) a (.inr (4, [va_rf (S.O_DefaultFundModel.f_margins a), va_rf (S.O_DefaultFundModel.f_sharesOf a), va_rf (S.O_DefaultFundModel.f_rooms a), va_rf (S.O_DefaultFundModel.f_gains a), va_rf (S.O_DefaultFundModel.f_tested a), va_rf (S.O_DefaultFundModel.f_states a), va_rf (S.O_DefaultFundModel.f_juniors a), va_rf (S.O_DefaultFundModel.f_assessedBy a), va_rf (S.O_DefaultFundModel.f_wonBy a), .int (S.O_DefaultFundModel.f_many a), va_rf (S.O_DefaultFundModel.f_owners a), va_rf (S.O_DefaultFundModel.f_lotsOf a), va_rf (S.O_DefaultFundModel.f_cameAt a), .int (S.O_DefaultFundModel.f_came a), .int (S.O_DefaultFundModel.f_clients a), .int (S.O_DefaultFundModel.f_capitalNow a), .int (S.O_DefaultFundModel.f_lossNow a), .int (S.O_DefaultFundModel.f_uncoveredNow a), .int (S.O_DefaultFundModel.f_failed a), .int (S.O_DefaultFundModel.f_book a), va_rf (S.O_DefaultFundModel.f_bids a), va_rf (S.O_DefaultFundModel.f_sharesThen a), va_rf v, va_rf (S.O_DefaultFundModel.f_bounds a), va_rf (S.O_DefaultFundModel.f_parts a), .int (S.O_DefaultFundModel.f_thrown a)])) b = wPF cyI cyO51b95 cyO28f5b { S with O_DefaultFundModel := { S.O_DefaultFundModel with f_weights := va_up S.O_DefaultFundModel.f_weights a v } } b := by by_cases hb : b = a <;> first | (simp only [wPF, va_up_ne _ _ hb]; done) | (simp only [wPF, va_up, if_neg hb]; done) | simp [wPF, va_re, va_up, va_rf, hb, h]
theorem wPu_O_DefaultFundModel_f_weights (cyI : ClassId) (cyO51b95 : ClassId) (cyO28f5b : ClassId) (X : va_W) (S : wPS) {A : Nat → Prop} {a k : Nat} (hD : va_D A (X ++ va_pl S.L (wPF cyI cyO51b95 cyO28f5b S))) (hL : a ∈ S.L) (h : S.K a = 4) (hk : (X ++ va_pl S.L (wPF cyI cyO51b95 cyO28f5b S))[k]? = some (a, wPF cyI cyO51b95 cyO28f5b S a)) (v : Option Nat) : (X ++ va_pl S.L (wPF cyI cyO51b95 cyO28f5b S)).set k (a, .inr (4, [va_rf (S.O_DefaultFundModel.f_margins a), va_rf (S.O_DefaultFundModel.f_sharesOf a), va_rf (S.O_DefaultFundModel.f_rooms a), va_rf (S.O_DefaultFundModel.f_gains a), va_rf (S.O_DefaultFundModel.f_tested a), va_rf (S.O_DefaultFundModel.f_states a), va_rf (S.O_DefaultFundModel.f_juniors a), va_rf (S.O_DefaultFundModel.f_assessedBy a), va_rf (S.O_DefaultFundModel.f_wonBy a), .int (S.O_DefaultFundModel.f_many a), va_rf (S.O_DefaultFundModel.f_owners a), va_rf (S.O_DefaultFundModel.f_lotsOf a), va_rf (S.O_DefaultFundModel.f_cameAt a), .int (S.O_DefaultFundModel.f_came a), .int (S.O_DefaultFundModel.f_clients a), .int (S.O_DefaultFundModel.f_capitalNow a), .int (S.O_DefaultFundModel.f_lossNow a), .int (S.O_DefaultFundModel.f_uncoveredNow a), .int (S.O_DefaultFundModel.f_failed a), .int (S.O_DefaultFundModel.f_book a), va_rf (S.O_DefaultFundModel.f_bids a), va_rf (S.O_DefaultFundModel.f_sharesThen a), va_rf v, va_rf (S.O_DefaultFundModel.f_bounds a), va_rf (S.O_DefaultFundModel.f_parts a), .int (S.O_DefaultFundModel.f_thrown a)])) = X ++ va_pl S.L (wPF cyI cyO51b95 cyO28f5b { S with O_DefaultFundModel := { S.O_DefaultFundModel with f_weights := va_up S.O_DefaultFundModel.f_weights a v } }) := by
  rw [va_pl_set hD hL hk]
  exact congrArg (fun l => X ++ l) (va_pl_congr (wSt_O_DefaultFundModel_f_weights cyI cyO51b95 cyO28f5b S h v))
theorem wSt_O_DefaultFundModel_f_bounds (cyI : ClassId) (cyO51b95 : ClassId) (cyO28f5b : ClassId) (S : wPS) {a : Nat} (h : S.K a = 4) (v : Option Nat) (b : Nat) : va_up (wPF cyI cyO51b95 cyO28f5b S) a (.inr (4, [va_rf (S.O_DefaultFundModel.f_margins a), va_rf (S.O_DefaultFundModel.f_sharesOf a), va_rf (S.O_DefaultFundModel.f_rooms a), va_rf (S.O_DefaultFundModel.f_gains a), va_rf (S.O_DefaultFundModel.f_tested a), va_rf (S.O_DefaultFundModel.f_states a), va_rf (S.O_DefaultFundModel.f_juniors a), va_rf (S.O_DefaultFundModel.f_assessedBy a), va_rf (S.O_DefaultFundModel.f_wonBy a), .int (S.O_DefaultFundModel.f_many a), va_rf (S.O_DefaultFundModel.f_owners a), va_rf (S.O_DefaultFundModel.f_lotsOf a), va_rf (S.O_DefaultFundModel.f_cameAt a), .int (S.O_DefaultFundModel.f_came a), .int (S.O_DefaultFundModel.f_clients a), .int (S.O_DefaultFundModel.f_capitalNow a), .int (S.O_DefaultFundModel.f_lossNow a), .int (S.O_DefaultFundModel.f_uncoveredNow a), .int (S.O_DefaultFundModel.f_failed a), .int (S.O_DefaultFundModel.f_book a), va_rf (S.O_DefaultFundModel.f_bids a), va_rf (S.O_DefaultFundModel.f_sharesThen a), va_rf (S.O_DefaultFundModel.f_weights a), va_rf v, va_rf (S.O_DefaultFundModel.f_parts a), .int (S.O_DefaultFundModel.f_thrown a)])) b = wPF cyI cyO51b95 cyO28f5b { S with O_DefaultFundModel := { S.O_DefaultFundModel with f_bounds := va_up S.O_DefaultFundModel.f_bounds a v } } b := by by_cases hb : b = a <;> first | (simp only [wPF, va_up_ne _ _ hb]; done) | (simp only [wPF, va_up, if_neg hb]; done) | simp [wPF, va_re, va_up, va_rf, hb, h]
theorem wPu_O_DefaultFundModel_f_bounds (cyI : ClassId) (cyO51b95 : ClassId) (cyO28f5b : ClassId) (X : va_W) (S : wPS) {A : Nat → Prop} {a k : Nat} (hD : va_D A (X ++ va_pl S.L (wPF cyI cyO51b95 cyO28f5b S))) (hL : a ∈ S.L) (h : S.K a = 4) (hk : (X ++ va_pl S.L (wPF cyI cyO51b95 cyO28f5b S))[k]? = some (a, wPF cyI cyO51b95 cyO28f5b S a)) (v : Option Nat) : (X ++ va_pl S.L (wPF cyI cyO51b95 cyO28f5b S)).set k (a, .inr (4, [va_rf (S.O_DefaultFundModel.f_margins a), va_rf (S.O_DefaultFundModel.f_sharesOf a), va_rf (S.O_DefaultFundModel.f_rooms a), va_rf (S.O_DefaultFundModel.f_gains a), va_rf (S.O_DefaultFundModel.f_tested a), va_rf (S.O_DefaultFundModel.f_states a), va_rf (S.O_DefaultFundModel.f_juniors a), va_rf (S.O_DefaultFundModel.f_assessedBy a), va_rf (S.O_DefaultFundModel.f_wonBy a), .int (S.O_DefaultFundModel.f_many a), va_rf (S.O_DefaultFundModel.f_owners a), va_rf (S.O_DefaultFundModel.f_lotsOf a), va_rf (S.O_DefaultFundModel.f_cameAt a), .int (S.O_DefaultFundModel.f_came a), .int (S.O_DefaultFundModel.f_clients a), .int (S.O_DefaultFundModel.f_capitalNow a), .int (S.O_DefaultFundModel.f_lossNow a), .int (S.O_DefaultFundModel.f_uncoveredNow a), .int (S.O_DefaultFundModel.f_failed a), .int (S.O_DefaultFundModel.f_book a), va_rf (S.O_DefaultFundModel.f_bids a), va_rf (S.O_DefaultFundModel.f_sharesThen a), va_rf (S.O_DefaultFundModel.f_weights a), va_rf v, va_rf (S.O_DefaultFundModel.f_parts a), .int (S.O_DefaultFundModel.f_thrown a)])) = X ++ va_pl S.L (wPF cyI cyO51b95 cyO28f5b { S with O_DefaultFundModel := { S.O_DefaultFundModel with f_bounds := va_up S.O_DefaultFundModel.f_bounds a v } }) := by
  rw [va_pl_set hD hL hk]
  exact congrArg (fun l => X ++ l) (va_pl_congr (wSt_O_DefaultFundModel_f_bounds cyI cyO51b95 cyO28f5b S h v))
theorem wSt_O_DefaultFundModel_f_parts (cyI : ClassId) (cyO51b95 : ClassId) (cyO28f5b : ClassId) (S : wPS) {a : Nat} (h : S.K a = 4) (v : Option Nat) (b : Nat) : va_up (wPF cyI cyO51b95 cyO28f5b S) a (.inr (4, [va_rf (S.O_DefaultFundModel.f_margins a), va_rf (S.O_DefaultFundModel.f_sharesOf a), va_rf (S.O_DefaultFundModel.f_rooms a), va_rf (S.O_DefaultFundModel.f_gains a), va_rf (S.O_DefaultFundModel.f_tested a), va_rf (S.O_DefaultFundModel.f_states a), va_rf (S.O_DefaultFundModel.f_juniors a), va_rf (S.O_DefaultFundModel.f_assessedBy a), va_rf (S.O_DefaultFundModel.f_wonBy a), .int (S.O_DefaultFundModel.f_many a), va_rf (S.O_DefaultFundModel.f_owners a), va_rf (S.O_DefaultFundModel.f_lotsOf a), va_rf (S.O_DefaultFundModel.f_cameAt a), .int (S.O_DefaultFundModel.f_came a), .int (S.O_DefaultFundModel.f_clients a), .int (S.O_DefaultFundModel.f_capitalNow a), .int (S.O_DefaultFundModel.f_lossNow a), .int (S.O_DefaultFundModel.f_uncoveredNow a), .int (S.O_DefaultFundModel.f_failed a), .int (S.O_DefaultFundModel.f_book a), va_rf (S.O_DefaultFundModel.f_bids a), va_rf (S.O_DefaultFundModel.f_sharesThen a), va_rf (S.O_DefaultFundModel.f_weights a), va_rf (S.O_DefaultFundModel.f_bounds a), va_rf v, .int (S.O_DefaultFundModel.f_thrown a)])) b = wPF cyI cyO51b95 cyO28f5b { S with O_DefaultFundModel := { S.O_DefaultFundModel with f_parts := va_up S.O_DefaultFundModel.f_parts a v } } b := by by_cases hb : b = a <;> first | (simp only [wPF, va_up_ne _ _ hb]; done) | (simp only [wPF, va_up, if_neg hb]; done) | simp [wPF, va_re, va_up, va_rf, hb, h]
theorem wPu_O_DefaultFundModel_f_parts (cyI : ClassId) (cyO51b95 : ClassId) (cyO28f5b : ClassId) (X : va_W) (S : wPS) {A : Nat → Prop} {a k : Nat} (hD : va_D A (X ++ va_pl S.L (wPF cyI cyO51b95 cyO28f5b S))) (hL : a ∈ S.L) (h : S.K a = 4) (hk : (X ++ va_pl S.L (wPF cyI cyO51b95 cyO28f5b S))[k]? = some (a, wPF cyI cyO51b95 cyO28f5b S a)) (v : Option Nat) : (X ++ va_pl S.L (wPF cyI cyO51b95 cyO28f5b S)).set k (a, .inr (4, [va_rf (S.O_DefaultFundModel.f_margins a), va_rf (S.O_DefaultFundModel.f_sharesOf a), va_rf (S.O_DefaultFundModel.f_rooms a), va_rf (S.O_DefaultFundModel.f_gains a), va_rf (S.O_DefaultFundModel.f_tested a), va_rf (S.O_DefaultFundModel.f_states a), va_rf (S.O_DefaultFundModel.f_juniors a), va_rf (S.O_DefaultFundModel.f_assessedBy a), va_rf (S.O_DefaultFundModel.f_wonBy a), .int (S.O_DefaultFundModel.f_many a), va_rf (S.O_DefaultFundModel.f_owners a), va_rf (S.O_DefaultFundModel.f_lotsOf a), va_rf (S.O_DefaultFundModel.f_cameAt a), .int (S.O_DefaultFundModel.f_came a), .int (S.O_DefaultFundModel.f_clients a), .int (S.O_DefaultFundModel.f_capitalNow a), .int (S.O_DefaultFundModel.f_lossNow a), .int (S.O_DefaultFundModel.f_uncoveredNow a), .int (S.O_DefaultFundModel.f_failed a), .int (S.O_DefaultFundModel.f_book a), va_rf (S.O_DefaultFundModel.f_bids a), va_rf (S.O_DefaultFundModel.f_sharesThen a), va_rf (S.O_DefaultFundModel.f_weights a), va_rf (S.O_DefaultFundModel.f_bounds a), va_rf v, .int (S.O_DefaultFundModel.f_thrown a)])) = X ++ va_pl S.L (wPF cyI cyO51b95 cyO28f5b { S with O_DefaultFundModel := { S.O_DefaultFundModel with f_parts := va_up S.O_DefaultFundModel.f_parts a v } }) := by
  rw [va_pl_set hD hL hk]
  exact congrArg (fun l => X ++ l) (va_pl_congr (wSt_O_DefaultFundModel_f_parts cyI cyO51b95 cyO28f5b S h v))
theorem wSt_O_DefaultFundModel_f_thrown (cyI : ClassId) (cyO51b95 : ClassId) (cyO28f5b : ClassId) (S : wPS) {a : Nat} (h : S.K a = 4) (v : Int32) (b : Nat) : va_up (wPF cyI cyO51b95 cyO28f5b S) a (.inr (4, [va_rf (S.O_DefaultFundModel.f_margins a), va_rf (S.O_DefaultFundModel.f_sharesOf a), va_rf (S.O_DefaultFundModel.f_rooms a), va_rf (S.O_DefaultFundModel.f_gains a), va_rf (S.O_DefaultFundModel.f_tested a), va_rf (S.O_DefaultFundModel.f_states a), va_rf (S.O_DefaultFundModel.f_juniors a), va_rf (S.O_DefaultFundModel.f_assessedBy a), va_rf (S.O_DefaultFundModel.f_wonBy a), .int (S.O_DefaultFundModel.f_many a), va_rf (S.O_DefaultFundModel.f_owners a), va_rf (S.O_DefaultFundModel.f_lotsOf a), va_rf (S.O_DefaultFundModel.f_cameAt a), .int (S.O_DefaultFundModel.f_came a), .int (S.O_DefaultFundModel.f_clients a), .int (S.O_DefaultFundModel.f_capitalNow a), .int (S.O_DefaultFundModel.f_lossNow a), .int (S.O_DefaultFundModel.f_uncoveredNow a), .int (S.O_DefaultFundModel.f_failed a), .int (S.O_DefaultFundModel.f_book a), va_rf (S.O_DefaultFundModel.f_bids a), va_rf (S.O_DefaultFundModel.f_sharesThen a), va_rf (S.O_DefaultFundModel.f_weights a), va_rf (S.O_DefaultFundModel.f_bounds a), va_rf (S.O_DefaultFundModel.f_parts a), .int v])) b = wPF cyI cyO51b95 cyO28f5b { S with O_DefaultFundModel := { S.O_DefaultFundModel with f_thrown := va_up S.O_DefaultFundModel.f_thrown a v } } b := by by_cases hb : b = a <;> first | (simp only [wPF, va_up_ne _ _ hb]; done) | (simp only [wPF, va_up, if_neg hb]; done) | simp [wPF, va_re, va_up, va_rf, hb, h]
theorem wPu_O_DefaultFundModel_f_thrown (cyI : ClassId) (cyO51b95 : ClassId) (cyO28f5b : ClassId) (X : va_W) (S : wPS) {A : Nat → Prop} {a k : Nat} (hD : va_D A (X ++ va_pl S.L (wPF cyI cyO51b95 cyO28f5b S))) (hL : a ∈ S.L) (h : S.K a = 4) (hk : (X ++ va_pl S.L (wPF cyI cyO51b95 cyO28f5b S))[k]? = some (a, wPF cyI cyO51b95 cyO28f5b S a)) (v : Int32) : (X ++ va_pl S.L (wPF cyI cyO51b95 cyO28f5b S)).set k (a, .inr (4, [va_rf (S.O_DefaultFundModel.f_margins a), va_rf (S.O_DefaultFundModel.f_sharesOf a), va_rf (S.O_DefaultFundModel.f_rooms a), va_rf (S.O_DefaultFundModel.f_gains a), va_rf (S.O_DefaultFundModel.f_tested a), va_rf (S.O_DefaultFundModel.f_states a), va_rf (S.O_DefaultFundModel.f_juniors a), va_rf (S.O_DefaultFundModel.f_assessedBy a), va_rf (S.O_DefaultFundModel.f_wonBy a), .int (S.O_DefaultFundModel.f_many a), va_rf (S.O_DefaultFundModel.f_owners a), va_rf (S.O_DefaultFundModel.f_lotsOf a), va_rf (S.O_DefaultFundModel.f_cameAt a), .int (S.O_DefaultFundModel.f_came a), .int (S.O_DefaultFundModel.f_clients a), .int (S.O_DefaultFundModel.f_capitalNow a), .int (S.O_DefaultFundModel.f_lossNow a), .int (S.O_DefaultFundModel.f_uncoveredNow a), .int (S.O_DefaultFundModel.f_failed a), .int (S.O_DefaultFundModel.f_book a), va_rf (S.O_DefaultFundModel.f_bids a), va_rf (S.O_DefaultFundModel.f_sharesThen a), va_rf (S.O_DefaultFundModel.f_weights a), va_rf (S.O_DefaultFundModel.f_bounds a), va_rf (S.O_DefaultFundModel.f_parts a), .int v])) = X ++ va_pl S.L (wPF cyI cyO51b95 cyO28f5b { S with O_DefaultFundModel := { S.O_DefaultFundModel with f_thrown := va_up S.O_DefaultFundModel.f_thrown a v } }) := by
  rw [va_pl_set hD hL hk]
  exact congrArg (fun l => X ++ l) (va_pl_congr (wSt_O_DefaultFundModel_f_thrown cyI cyO51b95 cyO28f5b S h v))
theorem wNw_O_DefaultFundModel (cyI : ClassId) (cyO51b95 : ClassId) (cyO28f5b : ClassId) (S : wPS) (a b : Nat) : va_up (wPF cyI cyO51b95 cyO28f5b S) a (.inr (4, [.null, .null, .null, .null, .null, .null, .null, .null, .null, .int 0, .null, .null, .null, .int 0, .int 0, .int 0, .int 0, .int 0, .int 0, .int 0, .null, .null, .null, .null, .null, .int 0])) b = wPF cyI cyO51b95 cyO28f5b { S with L := S.L ++ [a], K := va_up S.K a 4, O_DefaultFundModel := { f_margins := va_up S.O_DefaultFundModel.f_margins a none, f_sharesOf := va_up S.O_DefaultFundModel.f_sharesOf a none, f_rooms := va_up S.O_DefaultFundModel.f_rooms a none, f_gains := va_up S.O_DefaultFundModel.f_gains a none, f_tested := va_up S.O_DefaultFundModel.f_tested a none, f_states := va_up S.O_DefaultFundModel.f_states a none, f_juniors := va_up S.O_DefaultFundModel.f_juniors a none, f_assessedBy := va_up S.O_DefaultFundModel.f_assessedBy a none, f_wonBy := va_up S.O_DefaultFundModel.f_wonBy a none, f_many := va_up S.O_DefaultFundModel.f_many a 0, f_owners := va_up S.O_DefaultFundModel.f_owners a none, f_lotsOf := va_up S.O_DefaultFundModel.f_lotsOf a none, f_cameAt := va_up S.O_DefaultFundModel.f_cameAt a none, f_came := va_up S.O_DefaultFundModel.f_came a 0, f_clients := va_up S.O_DefaultFundModel.f_clients a 0, f_capitalNow := va_up S.O_DefaultFundModel.f_capitalNow a 0, f_lossNow := va_up S.O_DefaultFundModel.f_lossNow a 0, f_uncoveredNow := va_up S.O_DefaultFundModel.f_uncoveredNow a 0, f_failed := va_up S.O_DefaultFundModel.f_failed a 0, f_book := va_up S.O_DefaultFundModel.f_book a 0, f_bids := va_up S.O_DefaultFundModel.f_bids a none, f_sharesThen := va_up S.O_DefaultFundModel.f_sharesThen a none, f_weights := va_up S.O_DefaultFundModel.f_weights a none, f_bounds := va_up S.O_DefaultFundModel.f_bounds a none, f_parts := va_up S.O_DefaultFundModel.f_parts a none, f_thrown := va_up S.O_DefaultFundModel.f_thrown a 0 } } b := by by_cases hb : b = a <;> first | (simp only [wPF, va_up_ne _ _ hb]; done) | (simp only [wPF, va_up, if_neg hb]; done) | simp [wPF, va_re, va_up, va_rf, hb]
theorem wPn_O_DefaultFundModel (cyI : ClassId) (cyO51b95 : ClassId) (cyO28f5b : ClassId) (X : va_W) (S : wPS) {a : Nat} (ha : a ∉ S.L) : (X ++ va_pl S.L (wPF cyI cyO51b95 cyO28f5b S)) ++ [(a, .inr (4, [.null, .null, .null, .null, .null, .null, .null, .null, .null, .int 0, .null, .null, .null, .int 0, .int 0, .int 0, .int 0, .int 0, .int 0, .int 0, .null, .null, .null, .null, .null, .int 0]))] = X ++ va_pl (S.L ++ [a]) (wPF cyI cyO51b95 cyO28f5b { S with L := S.L ++ [a], K := va_up S.K a 4, O_DefaultFundModel := { f_margins := va_up S.O_DefaultFundModel.f_margins a none, f_sharesOf := va_up S.O_DefaultFundModel.f_sharesOf a none, f_rooms := va_up S.O_DefaultFundModel.f_rooms a none, f_gains := va_up S.O_DefaultFundModel.f_gains a none, f_tested := va_up S.O_DefaultFundModel.f_tested a none, f_states := va_up S.O_DefaultFundModel.f_states a none, f_juniors := va_up S.O_DefaultFundModel.f_juniors a none, f_assessedBy := va_up S.O_DefaultFundModel.f_assessedBy a none, f_wonBy := va_up S.O_DefaultFundModel.f_wonBy a none, f_many := va_up S.O_DefaultFundModel.f_many a 0, f_owners := va_up S.O_DefaultFundModel.f_owners a none, f_lotsOf := va_up S.O_DefaultFundModel.f_lotsOf a none, f_cameAt := va_up S.O_DefaultFundModel.f_cameAt a none, f_came := va_up S.O_DefaultFundModel.f_came a 0, f_clients := va_up S.O_DefaultFundModel.f_clients a 0, f_capitalNow := va_up S.O_DefaultFundModel.f_capitalNow a 0, f_lossNow := va_up S.O_DefaultFundModel.f_lossNow a 0, f_uncoveredNow := va_up S.O_DefaultFundModel.f_uncoveredNow a 0, f_failed := va_up S.O_DefaultFundModel.f_failed a 0, f_book := va_up S.O_DefaultFundModel.f_book a 0, f_bids := va_up S.O_DefaultFundModel.f_bids a none, f_sharesThen := va_up S.O_DefaultFundModel.f_sharesThen a none, f_weights := va_up S.O_DefaultFundModel.f_weights a none, f_bounds := va_up S.O_DefaultFundModel.f_bounds a none, f_parts := va_up S.O_DefaultFundModel.f_parts a none, f_thrown := va_up S.O_DefaultFundModel.f_thrown a 0 } }) := by
  rw [List.append_assoc, va_pl_push ha]
  exact congrArg (fun l => X ++ l) (va_pl_congr (wNw_O_DefaultFundModel cyI cyO51b95 cyO28f5b S a))
theorem wAt_R_I (cyI : ClassId) (cyO51b95 : ClassId) (cyO28f5b : ClassId) (S : wPS) {a : Nat} (h : S.K a = 5) : wPF cyI cyO51b95 cyO28f5b S a = .inl (cyI, S.R_I.len a, .inl (S.R_I.row a)) := by simp [wPF, h]
theorem wGt_R_I (cyI : ClassId) (cyO51b95 : ClassId) (cyO28f5b : ClassId) (X : va_W) (S : wPS) {a : Nat} (hL : a ∈ S.L) (h : S.K a = 5) : ∃ k : Nat, (X ++ va_pl S.L (wPF cyI cyO51b95 cyO28f5b S))[k]? = some (a, wPF cyI cyO51b95 cyO28f5b S a) ∧ (X ++ va_pl S.L (wPF cyI cyO51b95 cyO28f5b S))[k]? = some (a, .inl (cyI, S.R_I.len a, .inl (S.R_I.row a))) := by
  obtain ⟨k, hk⟩ := va_pl_get (X := X) (f := wPF cyI cyO51b95 cyO28f5b S) hL
  exact ⟨k, hk, hk.trans (congrArg (fun e => some (a, e)) (wAt_R_I cyI cyO51b95 cyO28f5b S h))⟩
theorem wSt_R_I_row (cyI : ClassId) (cyO51b95 : ClassId) (cyO28f5b : ClassId) (S : wPS) {a : Nat} (h : S.K a = 5) (v : Nat → Int32) (b : Nat) : va_up (wPF cyI cyO51b95 cyO28f5b S) a (.inl (cyI, S.R_I.len a, .inl v)) b = wPF cyI cyO51b95 cyO28f5b { S with R_I := { S.R_I with row := va_up S.R_I.row a v } } b := by by_cases hb : b = a <;> first | (simp only [wPF, va_up_ne _ _ hb]; done) | (simp only [wPF, va_up, if_neg hb]; done) | simp [wPF, va_re, va_up, va_rf, hb, h]
theorem wPu_R_I_row (cyI : ClassId) (cyO51b95 : ClassId) (cyO28f5b : ClassId) (X : va_W) (S : wPS) {A : Nat → Prop} {a k : Nat} (hD : va_D A (X ++ va_pl S.L (wPF cyI cyO51b95 cyO28f5b S))) (hL : a ∈ S.L) (h : S.K a = 5) (hk : (X ++ va_pl S.L (wPF cyI cyO51b95 cyO28f5b S))[k]? = some (a, wPF cyI cyO51b95 cyO28f5b S a)) (v : Nat → Int32) : (X ++ va_pl S.L (wPF cyI cyO51b95 cyO28f5b S)).set k (a, .inl (cyI, S.R_I.len a, .inl v)) = X ++ va_pl S.L (wPF cyI cyO51b95 cyO28f5b { S with R_I := { S.R_I with row := va_up S.R_I.row a v } }) := by
  rw [va_pl_set hD hL hk]
  exact congrArg (fun l => X ++ l) (va_pl_congr (wSt_R_I_row cyI cyO51b95 cyO28f5b S h v))
theorem wNr_R_I (cyI : ClassId) (cyO51b95 : ClassId) (cyO28f5b : ClassId) (S : wPS) (rs : List Nat) (z : Nat) (f : Nat → Int32) (b : Nat) : vr_up (wPF cyI cyO51b95 cyO28f5b S) rs (.inl (cyI, z, .inl f)) b = wPF cyI cyO51b95 cyO28f5b { S with L := S.L ++ rs, K := vr_up S.K rs 5, R_I := { len := vr_up S.R_I.len rs z, row := vr_up S.R_I.row rs f } } b := by by_cases hb : b ∈ rs <;> first | (simp only [wPF, vr_up, if_pos hb]; done) | (simp only [wPF, vr_up, if_neg hb]; done) | (simp only [wPF, vr_up, if_pos hb]; simp; done)
theorem wNw_R_I (cyI : ClassId) (cyO51b95 : ClassId) (cyO28f5b : ClassId) (S : wPS) (a : Nat) (z : Nat) (f : Nat → Int32) (b : Nat) : va_up (wPF cyI cyO51b95 cyO28f5b S) a (.inl (cyI, z, .inl f)) b = wPF cyI cyO51b95 cyO28f5b { S with L := S.L ++ [a], K := va_up S.K a 5, R_I := { len := va_up S.R_I.len a z, row := va_up S.R_I.row a f } } b := by by_cases hb : b = a <;> first | (simp only [wPF, va_up_ne _ _ hb]; done) | (simp only [wPF, va_up, if_neg hb]; done) | simp [wPF, va_re, va_up, va_rf, hb]
theorem wAt_R_Member (cyI : ClassId) (cyO51b95 : ClassId) (cyO28f5b : ClassId) (S : wPS) {a : Nat} (h : S.K a = 6) : wPF cyI cyO51b95 cyO28f5b S a = .inl (cyO51b95, S.R_Member.len a, .inr (.inr (.inr (.inr (S.R_Member.row a))))) := by simp [wPF, h]
theorem wGt_R_Member (cyI : ClassId) (cyO51b95 : ClassId) (cyO28f5b : ClassId) (X : va_W) (S : wPS) {a : Nat} (hL : a ∈ S.L) (h : S.K a = 6) : ∃ k : Nat, (X ++ va_pl S.L (wPF cyI cyO51b95 cyO28f5b S))[k]? = some (a, wPF cyI cyO51b95 cyO28f5b S a) ∧ (X ++ va_pl S.L (wPF cyI cyO51b95 cyO28f5b S))[k]? = some (a, .inl (cyO51b95, S.R_Member.len a, .inr (.inr (.inr (.inr (S.R_Member.row a)))))) := by
  obtain ⟨k, hk⟩ := va_pl_get (X := X) (f := wPF cyI cyO51b95 cyO28f5b S) hL
  exact ⟨k, hk, hk.trans (congrArg (fun e => some (a, e)) (wAt_R_Member cyI cyO51b95 cyO28f5b S h))⟩
theorem wSt_R_Member_row (cyI : ClassId) (cyO51b95 : ClassId) (cyO28f5b : ClassId) (S : wPS) {a : Nat} (h : S.K a = 6) (v : Nat → Option Nat) (b : Nat) : va_up (wPF cyI cyO51b95 cyO28f5b S) a (.inl (cyO51b95, S.R_Member.len a, .inr (.inr (.inr (.inr v))))) b = wPF cyI cyO51b95 cyO28f5b { S with R_Member := { S.R_Member with row := va_up S.R_Member.row a v } } b := by by_cases hb : b = a <;> first | (simp only [wPF, va_up_ne _ _ hb]; done) | (simp only [wPF, va_up, if_neg hb]; done) | simp [wPF, va_re, va_up, va_rf, hb, h]
theorem wPu_R_Member_row (cyI : ClassId) (cyO51b95 : ClassId) (cyO28f5b : ClassId) (X : va_W) (S : wPS) {A : Nat → Prop} {a k : Nat} (hD : va_D A (X ++ va_pl S.L (wPF cyI cyO51b95 cyO28f5b S))) (hL : a ∈ S.L) (h : S.K a = 6) (hk : (X ++ va_pl S.L (wPF cyI cyO51b95 cyO28f5b S))[k]? = some (a, wPF cyI cyO51b95 cyO28f5b S a)) (v : Nat → Option Nat) : (X ++ va_pl S.L (wPF cyI cyO51b95 cyO28f5b S)).set k (a, .inl (cyO51b95, S.R_Member.len a, .inr (.inr (.inr (.inr v))))) = X ++ va_pl S.L (wPF cyI cyO51b95 cyO28f5b { S with R_Member := { S.R_Member with row := va_up S.R_Member.row a v } }) := by
  rw [va_pl_set hD hL hk]
  exact congrArg (fun l => X ++ l) (va_pl_congr (wSt_R_Member_row cyI cyO51b95 cyO28f5b S h v))
theorem wNw_R_Member (cyI : ClassId) (cyO51b95 : ClassId) (cyO28f5b : ClassId) (S : wPS) (a : Nat) (z : Nat) (f : Nat → Option Nat) (b : Nat) : va_up (wPF cyI cyO51b95 cyO28f5b S) a (.inl (cyO51b95, z, .inr (.inr (.inr (.inr f))))) b = wPF cyI cyO51b95 cyO28f5b { S with L := S.L ++ [a], K := va_up S.K a 6, R_Member := { len := va_up S.R_Member.len a z, row := va_up S.R_Member.row a f } } b := by by_cases hb : b = a <;> first | (simp only [wPF, va_up_ne _ _ hb]; done) | (simp only [wPF, va_up, if_neg hb]; done) | simp [wPF, va_re, va_up, va_rf, hb]
theorem wAt_R__I (cyI : ClassId) (cyO51b95 : ClassId) (cyO28f5b : ClassId) (S : wPS) {a : Nat} (h : S.K a = 7) : wPF cyI cyO51b95 cyO28f5b S a = .inl (cyO28f5b, S.R__I.len a, .inr (.inr (.inr (.inr (S.R__I.row a))))) := by simp [wPF, h]
theorem wGt_R__I (cyI : ClassId) (cyO51b95 : ClassId) (cyO28f5b : ClassId) (X : va_W) (S : wPS) {a : Nat} (hL : a ∈ S.L) (h : S.K a = 7) : ∃ k : Nat, (X ++ va_pl S.L (wPF cyI cyO51b95 cyO28f5b S))[k]? = some (a, wPF cyI cyO51b95 cyO28f5b S a) ∧ (X ++ va_pl S.L (wPF cyI cyO51b95 cyO28f5b S))[k]? = some (a, .inl (cyO28f5b, S.R__I.len a, .inr (.inr (.inr (.inr (S.R__I.row a)))))) := by
  obtain ⟨k, hk⟩ := va_pl_get (X := X) (f := wPF cyI cyO51b95 cyO28f5b S) hL
  exact ⟨k, hk, hk.trans (congrArg (fun e => some (a, e)) (wAt_R__I cyI cyO51b95 cyO28f5b S h))⟩
theorem wSt_R__I_row (cyI : ClassId) (cyO51b95 : ClassId) (cyO28f5b : ClassId) (S : wPS) {a : Nat} (h : S.K a = 7) (v : Nat → Option Nat) (b : Nat) : va_up (wPF cyI cyO51b95 cyO28f5b S) a (.inl (cyO28f5b, S.R__I.len a, .inr (.inr (.inr (.inr v))))) b = wPF cyI cyO51b95 cyO28f5b { S with R__I := { S.R__I with row := va_up S.R__I.row a v } } b := by by_cases hb : b = a <;> first | (simp only [wPF, va_up_ne _ _ hb]; done) | (simp only [wPF, va_up, if_neg hb]; done) | simp [wPF, va_re, va_up, va_rf, hb, h]
theorem wPu_R__I_row (cyI : ClassId) (cyO51b95 : ClassId) (cyO28f5b : ClassId) (X : va_W) (S : wPS) {A : Nat → Prop} {a k : Nat} (hD : va_D A (X ++ va_pl S.L (wPF cyI cyO51b95 cyO28f5b S))) (hL : a ∈ S.L) (h : S.K a = 7) (hk : (X ++ va_pl S.L (wPF cyI cyO51b95 cyO28f5b S))[k]? = some (a, wPF cyI cyO51b95 cyO28f5b S a)) (v : Nat → Option Nat) : (X ++ va_pl S.L (wPF cyI cyO51b95 cyO28f5b S)).set k (a, .inl (cyO28f5b, S.R__I.len a, .inr (.inr (.inr (.inr v))))) = X ++ va_pl S.L (wPF cyI cyO51b95 cyO28f5b { S with R__I := { S.R__I with row := va_up S.R__I.row a v } }) := by
  rw [va_pl_set hD hL hk]
  exact congrArg (fun l => X ++ l) (va_pl_congr (wSt_R__I_row cyI cyO51b95 cyO28f5b S h v))
theorem wNw_R__I (cyI : ClassId) (cyO51b95 : ClassId) (cyO28f5b : ClassId) (S : wPS) (a : Nat) (z : Nat) (f : Nat → Option Nat) (b : Nat) : va_up (wPF cyI cyO51b95 cyO28f5b S) a (.inl (cyO28f5b, z, .inr (.inr (.inr (.inr f))))) b = wPF cyI cyO51b95 cyO28f5b { S with L := S.L ++ [a], K := va_up S.K a 7, R__I := { len := va_up S.R__I.len a z, row := va_up S.R__I.row a f } } b := by by_cases hb : b = a <;> first | (simp only [wPF, va_up_ne _ _ hb]; done) | (simp only [wPF, va_up, if_neg hb]; done) | simp [wPF, va_re, va_up, va_rf, hb]
/-! ===== END printed: names ===== -/
