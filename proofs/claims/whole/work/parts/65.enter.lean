/-! ===== the law from its loop's head on ===== -/
theorem loop_W {p : Program} {e : Env} {s : State} {m : MethodId} {below : List Frame} {meth : Method} {c : Code} {b L : Nat} {xs : Nat → Int32} (hL : L ≤ 2048) (C0 : lw_At p s m meth c b L xs) {g : Gl} (hG : GV g s) (hZ : Zs (fun q => s.heap.size ≤ q) s s.heap) (hA : ∀ q, q ∈ prs → s.heap.size ≤ g.2.2.1 q.1 q.2)
    {H : Heap} {locs : List Loc} {ls : Array Slot} {cells slots : Nat} (hW : Wd g St0 H) (hS : va_S (fun q => s.heap.size ≤ q) s.heap H locs) (hls : lvs g ls 7 [some (vX b), some (vR 0 0), some (vR 11 0), some (vR 29 0), some (vI (4 * ((0 : Nat) : Int))), none, none]) (hc : cells + 4096 ≤ 601024) (hs : slots + 6 * 4096 ≤ 7293034) :
    W p g.1 e room_1 s m #[Value.ref b] below meth c H locs cells slots (lw_Z below #[Value.ref b] s) (F0 m 23 ls []) := by
  obtain ⟨hx, hb, hr, hml, hown, hts, hX, hbl, hlocks, hgv⟩ := C0
  have C : Ctx g RL cL_law 7 11 390 4096 p room_1 s m #[Value.ref b] meth c (fun q => s.heap.size ≤ q) cells slots :=
    ⟨hx, hb, hml, hown, fun w hw => hts w (List.mem_filter.mp hw).1, hG, hA, fun q hq => hq, hZ, hlocks, Nat.le_refl _, Nat.le_refl _, hc, hs⟩
  have MW : MkW g b L xs 4096 (Wk g 7 4096 p e room_1 s m #[Value.ref b] below meth c (fun q => s.heap.size ≤ q) cells slots (lw_Z below #[Value.ref b] s)) :=
    ⟨p, e, s, m, below, meth, c, cells, slots, C, hr, hX, hbl, by omega, fun _ _ _ _ _ => Iff.rfl⟩
  have k := law_loop MW ops_all hL 513 0 0 St0 none none (by omega) (by omega) Inv_0
  exact k (Nat.zero_le _) H locs ls hW hS hls
