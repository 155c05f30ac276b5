/-! ===== what the tables know at the law's entry ===== -/
theorem arr_of {s : State} {c : ClassId} {k : Class} {comp : ClassId} {ty : FieldType} (h1 : s.vm.classes[c]? = some k) (h2 : k.kind = .array comp ty) : ArrOfT s c ty := fun n z => ⟨fun q h => (by cases h), k, h1, comp, h2⟩
theorem ki_start {p : Program} {s : State} {m : MethodId} {meth : Method} {c : Code} {b L : Nat} {xs : Nat → Int32} (l : Launch) (C0 : lw_At p s m meth c b L xs) : ∃ g : Gl, g.1 = l ∧ GI g s := by
  have hts := C0.2.2.2.2.2.1
  have htw : ∀ w ∈ WT, w.before #[Value.ref b] s = true := fun w hw => hts w (List.mem_filter.mp hw).1
  obtain ⟨c0, i0, k0⟩ := u_known (C := RX0) (T := TX0) (N := 2) (n := 2) htw inW0 (htw _ (wt_at 56 (by decide +kernel) rfl))
  obtain ⟨c1, i1, k1⟩ := u_known (C := RX1) (T := TX1) (N := 13) (n := 13) htw inW1 (htw _ (wt_at 88 (by decide +kernel) rfl))
  obtain ⟨c2, i2, k2⟩ := u_known (C := RX2) (T := TX2) (N := 3) (n := 3) htw inW2 (htw _ (wt_at 73 (by decide +kernel) rfl))
  obtain ⟨c3, i3, k3⟩ := u_known (C := RX3) (T := TX3) (N := 8) (n := 8) htw inW3 (htw _ (wt_at 46 (by decide +kernel) rfl))
  obtain ⟨dC, dI, hKc⟩ : ∃ (dC : Nat → ClassId) (dI : Nat → Nat → Nat), ∀ (k : Nat) (q : vw_C), vwCl[k]? = some q → u_Kn s q.1 q.2.1 q.2.2 (dC k) (dI k) := by
    refine ⟨fun k => match k with | 0 => c0 | 1 => c1 | 2 => c2 | _ => c3, fun k => match k with | 0 => i0 | 1 => i1 | 2 => i2 | _ => i3, ?_⟩
    intro k q hq
    match k, hq with
    | 0, hq => cases hq; exact k0
    | 1, hq => cases hq; exact k1
    | 2, hq => cases hq; exact k2
    | 3, hq => cases hq; exact k3
    | k + 4, hq => simp [vwCl] at hq
  have hO : va_AO RX1 s := va_AO.of (A := #[Value.ref b]) (hts _ (List.mem_of_getElem? (i := 54) (by decide +kernel)))
  have hOA : va_AOA .int s := va_AOA.of (A := #[Value.ref b]) (hts _ (List.mem_of_getElem? (i := 62) (by decide +kernel)))
  obtain ⟨a0, ka0, cm0, e01, e02, e03⟩ := Cond.arrayClass_spec (type := .int) (htw _ (wt_at 71 (by decide +kernel) rfl))
  obtain ⟨cm1, a1, ka1, e11, -, e12, e13, e14⟩ := Cond.arrayOver_spec hO
  obtain ⟨cm2, a2, ka2, e21, -, e22, e23, e24⟩ := arrayOverA_spec hOA
  refine ⟨(l, (dC, dI), fun _ _ => 0, fun k => match k with | 0 => a0 | 1 => a1 | _ => a2), rfl, f_NW C0, ⟨hKc, fun k q hq => ?_⟩, hO, hOA⟩
  match k, hq with
  | 0, hq => cases hq; exact ⟨arr_of e02 e03, e01⟩
  | 1, hq => cases hq; exact ⟨arr_of e12 e13, ka1, cm1, e12, e13, e11, e14⟩
  | 2, hq => cases hq; exact ⟨arr_of e22 e23, e24⟩
  | k + 3, hq => simp [tyl] at hq
