theorem f_str {p : Program} {s : State} {m : MethodId} {meth : Method} {c : Code} {b L : Nat} {xs : Nat → Int32} (C0 : lw_At p s m meth c b L xs) : ∀ q ∈ strs, ∃ a, vk_R q.1 q.2.1 q.2.2 a s := fun q hq => by
  have hs := flat_of_before _ C0.2.2.2.2.2.2.2.2.2
  have hts := C0.2.2.2.2.2.1
  have key : ∀ (k : Nat) (tx : String), (Cond.stringRef RX3 k tx).before #[Value.ref b] s = true → (Cond.exactly (.string RX3 k) "java/lang/String").before #[Value.ref b] s = true → ∃ a, vk_R RX3 k tx a s := fun k tx h1 h2 => by
    obtain ⟨a, _, _, _, q1, _⟩ := Cond.exactly_spec h2
    exact ⟨a, vk_R.of (A := #[Value.ref b]) h1 q1⟩
  simp only [strs, List.mem_cons, List.not_mem_nil, or_false] at hq
  rcases hq with rfl | rfl | rfl | rfl | rfl | rfl | rfl | rfl | rfl | rfl
  all_goals exact key _ _ (hts _ (by decide +kernel)) (hs _ (by decide +kernel))
