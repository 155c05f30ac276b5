/-! ===== the state at the beginning; what holds at the law's entry ===== -/
def St0 : St := up3 (fun _ _ _ => 0) 0 0 7 (-1)
theorem St0_t {t : Nat} (h0 : t ≠ 0) (i k : Nat) : St0 t i k = 0 := by
  unfold St0
  rw [up3_t h0]
theorem St0_0 {k : Nat} : St0 0 0 k = if k = 7 then -1 else 0 := by
  unfold St0
  by_cases q : k = 7
  · rw [if_pos q, q]
    exact up3_at
  · rw [if_neg q, up3_k q]
theorem LI_0 : LI 0 St0 := by
  have z := @St0_t
  have hci : CI St0 := by
    refine ⟨by rw [St0_0]; decide, by rw [St0_0]; decide, by rw [St0_0]; decide, by rw [St0_0]; decide, ⟨by rw [z (by omega)]; omega, fun i hi k hk => by rw [z (by omega)]; omega⟩, fun k hk => by rw [z (by omega), z (by omega), z (by omega)]; omega, fun i hi => ?_⟩
    unfold MI
    simp only [z (show (4 : Nat) ≠ 0 by omega), z (show (5 : Nat) ≠ 0 by omega)]
    refine ⟨?_, ?_, ?_, ?_, ?_, ?_, ?_, ?_, ?_, ?_, fun k hk => ?_⟩ <;> omega
  refine ⟨⟨hci, fun i hi => ?_, fun k hk hc => z (by omega) _ _, fun k hk hc => ?_, fun i hi => ?_, ?_⟩, by rw [St0_0]; rfl⟩
  · rw [z (by omega), z (by omega)]
    exact ⟨Int.le_refl _, rfl, fun k hk => by omega⟩
  · rw [z (by omega), z (by omega)]
  · rw [z (by omega)]
    omega
  · rw [St0_0]
    decide
section FACTS
variable {p : Program} {s : State} {m : MethodId} {meth : Method} {c : Code} {b L : Nat} {xs : Nat → Int32}
theorem f_NW (C0 : lw_At p s m meth c b L xs) : ∀ w ∈ NW, va_Nw w s := fun w hw => va_Nw.of (nest_tab (List.mem_filter.mp hw).2) (C0.2.2.2.2.2.1 w (List.mem_filter.mp hw).1)
theorem f_st (l : Launch) (hflags : l.flags = flags0) : l.stackTraces = false := by
  unfold Launch.stackTraces
  rw [hflags]
  decide +kernel
theorem f_nc (s : State) : ∀ q ∈ ncs, va_Nc q.1 q.2 s := fun q hq => by
  simp only [ncs, List.not_mem_nil] at hq
theorem f_Zs (C0 : lw_At p s m meth c b L xs) : Zs (fun q => s.heap.size ≤ q) s s.heap := by
  have hs := flat_of_before _ C0.2.2.2.2.2.2.2.2.2
  have hts := C0.2.2.2.2.2.1
  refine ⟨vx_Zqof (hts _ (by decide +kernel)) (hts _ (by decide +kernel)) (hs _ (by decide +kernel)) (fun a h1 h2 => absurd h1 (Nat.not_lt.mpr h2)), vx_Zqof (hts _ (by decide +kernel)) (hts _ (by decide +kernel)) (hs _ (by decide +kernel)) (fun a h1 h2 => absurd h1 (Nat.not_lt.mpr h2))⟩
end FACTS
theorem f_str {p : Program} {s : State} {m : MethodId} {meth : Method} {c : Code} {b L : Nat} {xs : Nat → Int32} (C0 : lw_At p s m meth c b L xs) : ∀ q ∈ strs, ∃ a, vk_R q.1 q.2.1 q.2.2 a s := fun q hq => by
  have hs := flat_of_before _ C0.2.2.2.2.2.2.2.2.2
  have hts := C0.2.2.2.2.2.1
  have key : ∀ (k : Nat) (tx : String), (Cond.stringRef RX3 k tx).before #[Value.ref b] s = true → (Cond.exactly (.string RX3 k) "java/lang/String").before #[Value.ref b] s = true → ∃ a, vk_R RX3 k tx a s := fun k tx h1 h2 => by
    obtain ⟨a, _, _, _, q1, _⟩ := Cond.exactly_spec h2
    exact ⟨a, vk_R.of (A := #[Value.ref b]) h1 q1⟩
  simp only [strs, List.mem_cons, List.not_mem_nil, or_false] at hq
  rcases hq with rfl | rfl | rfl | rfl | rfl | rfl | rfl | rfl | rfl | rfl
  all_goals exact key _ _ (hts _ (by decide +kernel)) (hs _ (by decide +kernel))
