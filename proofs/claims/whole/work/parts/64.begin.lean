/-! ===== the relation at the beginning ===== -/
def St0 : St := up3 (up3 (fun _ _ _ => 0) 0 0 7 (-1)) 11 0 18 (-1)
theorem St0_t {t : Nat} (h0 : t ≠ 0) (h11 : t ≠ 11) (i k : Nat) : St0 t i k = 0 := by
  unfold St0
  rw [up3_t h11, up3_t h0]
theorem St0_0 {k : Nat} : St0 0 0 k = if k = 7 then -1 else 0 := by
  unfold St0
  rw [up3_t (by omega)]
  by_cases q : k = 7
  · rw [if_pos q, q]
    exact up3_at
  · rw [if_neg q, up3_k q]
theorem St0_11 {k : Nat} : St0 11 0 k = if k = 18 then -1 else 0 := by
  unfold St0
  by_cases q : k = 18
  · rw [if_pos q, q]
    exact up3_at
  · rw [if_neg q, up3_k q, up3_t (by omega)]
theorem Inv_0 : Inv 0 St0 := by
  have hn : nC St0 = 0 := by unfold nC; rw [St0_11]; rfl
  have z := @St0_t
  have hci : CI St0 := by
    refine ⟨by rw [St0_0]; decide, by rw [St0_0]; decide, by rw [St0_0]; decide, by rw [St0_0]; decide, ⟨by rw [z (by omega) (by omega)]; omega, fun i hi k hk => by rw [z (by omega) (by omega)]; omega⟩, fun k hk => by rw [z (by omega) (by omega), z (by omega) (by omega), z (by omega) (by omega)]; omega, fun i hi => ?_⟩
    unfold MI
    simp only [z (show (4 : Nat) ≠ 0 by omega) (show (4 : Nat) ≠ 11 by omega), z (show (5 : Nat) ≠ 0 by omega) (show (5 : Nat) ≠ 11 by omega)]
    refine ⟨?_, ?_, ?_, ?_, ?_, ?_, ?_, ?_, ?_, ?_, fun k hk => ?_⟩ <;> omega
  have hF : ∀ i, i < 10 → RFi St0 i := fun i hi => by
    unfold RFi
    refine ⟨?_, ?_, ?_, ?_, ?_, ?_, ?_, ?_, ?_, ?_⟩ <;> rw [z (by omega) (by omega), z (by omega) (by omega)]
  have hrs : RS St0 := by
    refine ⟨?_, ?_, ?_, ?_, ?_⟩ <;> rw [St0_0, St0_11] <;> rfl
  have f7 : St0 0 0 7 = -1 := by rw [St0_0]; rfl
  refine ⟨hci, mI_of hci hF hrs (by rw [St0_11]; decide) (by rw [St0_11]; decide) (by rw [St0_11]; decide) (fun k hk => ?_) (fun k hk => ?_) (fun k hk => ?_), hrs, hF, fun q => absurd f7 q, fun k hk hc => ⟨z (by omega) (by omega) _ _, z (by omega) (by omega) _ _, z (by omega) (by omega) _ _⟩, fun i hi => ⟨fun _ => 0, ?_⟩, fun c hc => by rw [hn] at hc; omega, ⟨by rw [St0_11]; decide, by rw [St0_11]; decide, by rw [St0_0]; decide, fun i hi => ?_⟩, fun q => absurd f7 q⟩
  · rw [z (by omega) (by omega), z (by omega) (by omega), z (by omega) (by omega)]
    omega
  · rw [z (by omega) (by omega)]
    omega
  · rw [z (by omega) (by omega), z (by omega) (by omega), z (by omega) (by omega)]
    omega
  · unfold RCi
    rw [hn]
    refine ⟨⟨?_, ?_, ?_⟩, fun k hk => ?_, fun k k' a b => ?_, fun c hc => absurd hc (by omega)⟩
    · rw [z (by omega) (by omega), z (by omega) (by omega)]; omega
    · rw [z (by omega) (by omega), z (by omega) (by omega)]; omega
    · rw [z (by omega) (by omega)]; rfl
    · rw [z (by omega) (by omega)] at hk; omega
    · rw [z (by omega) (by omega)] at b; omega
  · rw [z (by omega) (by omega), z (by omega) (by omega)]
    omega
