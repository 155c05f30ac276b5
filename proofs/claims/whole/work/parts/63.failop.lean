/-! ===== fail: the call on both sides; all calls ===== -/
section FAILO
variable {g : Gl}
theorem op_7 : Op7 g Inv := fun t S p0 p1 ht h0 h1 hI Rt hk => by
  have hc := hI.cnt
  have hf7 := hI.rs.2.2.2.2
  have hr2 := hI.rt.2.1
  have hlot : ∀ j : Nat, j < 10 → lotM S j (nC S) ≤ 100 := fun j hj => by
    obtain ⟨s, hs⟩ := hI.rc j hj
    have := (hI.ci.mem hj).2.1
    rw [← hs.1.2.2]
    omega
  refine w_fail (Ret := Rt) (fun R9 T9 q0 q1 q2 q3 => cn_fail h0 h1 hI.ci (fun j ej hj hjc hv ha hf => ?_) (fun hb => ?_) (fun ha hb => ?_) (fun j ej hj hjc hv hb => ?_))
  · have hma := (hI.act hj).mp ha
    have hna : ¬ actv (flS S j) j := by
      unfold actv
      rw [fl_4, if_pos ⟨rfl, rfl⟩]
      omega
    have u11 : ∀ t', 11 ≤ t' → failS S j p1 t' = S t' := fun t' h => fail_t hna (by omega) (by omega) (by omega) (by omega) (by omega)
    have v12 : ∀ t', 12 ≤ t' → t' < 29 → up3 (failS S j p1) 29 0 0 (bookN S j p1) t' = S t' := fun t' h h2 => by rw [up3_t (by omega), u11 t' (by omega)]
    have v11 : ∀ c, up3 (failS S j p1) 29 0 0 (bookN S j p1) 11 0 c = S 11 0 c := fun c => by rw [up3_t (by omega), u11 11 (by omega)]
    have hmi : mI (up3 (failS S j p1) 29 0 0 (bookN S j p1)) := mI_cong v12 (fun c _ => v11 c) hI.mi
    obtain ⟨eb, hI2, h25, h29⟩ := fail_Inv hI ht hj hjc hv v12 (fun c _ => v11 c) (fun t' h => up3_t (by omega))
    have hbr : 0 ≤ bookN S j p1 ∧ bookN S j p1 ≤ 120 := by
      have h9 := hI2.mi.1
      unfold mN at h9
      have e : mfailS (up3 (failS S j p1) 29 0 0 (bookN S j p1)) j p1 11 0 19 = mfF (up3 (failS S j p1) 29 0 0 (bookN S j p1)) j p1 11 0 19 := by
        unfold mfailS
        rw [aS_t (by omega), aS_t (by omega)]
      rw [e, ← eb] at h9
      omega
    refine q0 _ _ (by omega) (hk 0 _ (by omega) (fun Rt2 hr => ?_))
    refine m_fail h0 h1 hmi (by rw [v11 13]; omega) (fun j3 hj3 => ?_) (fun j2 ej2 hj2 hjc2 hv2 ha2 hf2 => ?_) (fun hb => ?_) (fun a b => ?_) (fun j2 ej2 hj2 hjc2 hv2 hb => ?_)
    · have e1 : nC (up3 (failS S j p1) 29 0 0 (bookN S j p1)) = nC S := by unfold nC; rw [v11 14]
      have e2 : lotM (up3 (failS S j p1) 29 0 0 (bookN S j p1)) j3 (nC S) = lotM S j3 (nC S) := by unfold lotM; rw [v12 21 (by omega) (by omega), v12 22 (by omega) (by omega)]
      rw [e1, e2]
      exact hlot j3 hj3
    · have e : j2 = j := by omega
      subst e
      rw [← eb]
      exact hr _ _ (by omega) h25 (fun _ => by rw [h29]; exact up3_at) hI2
    · exact absurd (show 0 ≤ p0 ∧ p0 < up3 (failS S j p1) 29 0 0 (bookN S j p1) 11 0 9 by rw [v11 9]; omega) hb
    · exact absurd hv b
    · have e : j2 = j := by omega
      subst e
      have h17 : mact (up3 (failS S j2 p1) 29 0 0 (bookN S j2 p1)) j2 := by
        unfold mact
        rw [v12 17 (by omega) (by omega)]
        exact hma
      exact absurd ⟨h17, by rw [v11 18]; omega⟩ hb
  · refine q1 _ (hk 1 _ (by omega) (fun Rt2 hr => ?_))
    refine m_fail h0 h1 hI.mi (by omega) hlot (fun j2 ej2 hj2 hjc2 hv2 ha2 hf2 => ?_) (fun hb => ?_) (fun a b => ?_) (fun j2 ej2 hj2 hjc2 hv2 hb => ?_)
    all_goals first | exact hr _ _ (by omega) rfl (fun w => absurd w (by omega)) hI.suc | (exfalso; omega)
  · refine q2 _ (hk 2 _ (by omega) (fun Rt2 hr => ?_))
    refine m_fail h0 h1 hI.mi (by omega) hlot (fun j2 ej2 hj2 hjc2 hv2 ha2 hf2 => ?_) (fun hb => ?_) (fun a b => ?_) (fun j2 ej2 hj2 hjc2 hv2 hb => ?_)
    all_goals first | exact hr _ _ (by omega) rfl (fun w => absurd w (by omega)) hI.suc | (exfalso; omega)
  · refine q3 _ (hk 3 _ (by omega) (fun Rt2 hr => ?_))
    refine m_fail h0 h1 hI.mi (by omega) hlot (fun j2 ej2 hj2 hjc2 hv2 ha2 hf2 => ?_) (fun hb => ?_) (fun a b => ?_) (fun j2 ej2 hj2 hjc2 hv2 hb => ?_)
    · have e : j2 = j := by omega
      subst e
      exact absurd ⟨(hI.act hj).mpr ha2, by omega⟩ hb
    all_goals first | exact hr _ _ (by omega) rfl (fun w => absurd w (by omega)) hI.suc | (exfalso; omega)
theorem ops_all : OpsA g Inv := ⟨op_0, op_1, op_2, op_3, op_4, op_5, op_6, op_7, op_8, op_9, op_10, op_11, op_12, op_13, op_14, op_15, op_16, op_17, op_18, op_19, op_20, op_21, op_22, fun _ _ _ h => h.suc⟩
end FAILO
