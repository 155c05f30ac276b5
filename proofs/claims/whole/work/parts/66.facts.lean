/-! ===== what holds at the law's entry ===== -/
section FACTS
variable {p : Program} {s : State} {m : MethodId} {meth : Method} {c : Code} {b L : Nat} {xs : Nat → Int32}
theorem f_NW (C0 : lw_At p s m meth c b L xs) : ∀ w ∈ NW, va_Nw w s := fun w hw => va_Nw.of (nest_tab (List.mem_filter.mp hw).2) (C0.2.2.2.2.2.1 w (List.mem_filter.mp hw).1)
theorem f_st (l : Launch) (hflags : l.flags = flags0) : l.stackTraces = false := by
  unfold Launch.stackTraces
  rw [hflags]
  decide +kernel
theorem f_nc (C0 : lw_At p s m meth c b L xs) : ∀ q ∈ ncs, va_Nc q.1 q.2 s := fun q hq => by
  have hs := flat_of_before _ C0.2.2.2.2.2.2.2.2.2
  simp only [ncs, List.mem_cons, List.not_mem_nil, or_false] at hq
  rcases hq with rfl | rfl | rfl | rfl | rfl | rfl
  all_goals exact va_Nc.of (hs _ (by decide +kernel))
theorem f_Zs (C0 : lw_At p s m meth c b L xs) : Zs (fun q => s.heap.size ≤ q) s s.heap := by
  have hs := flat_of_before _ C0.2.2.2.2.2.2.2.2.2
  have hts := C0.2.2.2.2.2.1
  refine ⟨vx_Zqof (hts _ (by decide +kernel)) (hts _ (by decide +kernel)) (hs _ (by decide +kernel)) (fun a h1 h2 => absurd h1 (Nat.not_lt.mpr h2)), vx_Zqof (hts _ (by decide +kernel)) (hts _ (by decide +kernel)) (hs _ (by decide +kernel)) (fun a h1 h2 => absurd h1 (Nat.not_lt.mpr h2))⟩
end FACTS
