/-! ===== close: the call on both sides ===== -/
section CLOP
variable {g : Gl}
theorem op_9 : Op9 g Inv := fun t S ht hI Rt hk => by
  have hf7 := hI.rs.2.2.2.2
  have hcf := hI.ci.2.2.1
  refine w_close (Ret := Rt) (fun R9 T9 q0 q1 => cn_close hI.ci (fun i ei hi => ?_) (fun hf => ?_))
  · have co := (ea_ok (CI_cl1 hI.ci) hi).2.2.2.2
    refine q0 _ _ (by omega) (hk 0 _ (by omega) (fun Rt2 hr => ?_))
    have u11 : ∀ t', 11 ≤ t' → clS S i t' = S t' := fun t' h => cls_t (by omega) (by omega) (by omega) (by omega) (by omega)
    have v12 : ∀ t', 12 ≤ t' → t' < 29 → up3 (clS S i) 29 0 0 (ea4 (cl1 S) i).2 t' = S t' := fun t' h h2 => by rw [up3_t (by omega), u11 t' (by omega)]
    have v11 : ∀ c, up3 (clS S i) 29 0 0 (ea4 (cl1 S) i).2 11 0 c = S 11 0 c := fun c => by rw [up3_t (by omega), u11 11 (by omega)]
    have hmi : mI (up3 (clS S i) 29 0 0 (ea4 (cl1 S) i).2) := mI_cong v12 (fun c _ => v11 c) hI.mi
    refine m_close hmi (fun i2 ei2 hi2 => ?_) (fun hb => ?_)
    · rw [v11 18] at ei2
      have e : i2 = i := by omega
      subst e
      have w12 : ∀ t', 12 ≤ t' → t' < 29 → thr (up3 (clS S i2) 29 0 0 (ea4 (cl1 S) i2).2) 0 t' = S t' := fun t' h h2 => by
        unfold thr
        rw [up3_t (by omega), v12 t' h h2]
      have w11 : ∀ c, c ≠ 25 → thr (up3 (clS S i2) 29 0 0 (ea4 (cl1 S) i2).2) 0 11 0 c = S 11 0 c := fun c hc => by
        unfold thr
        rw [up3_k hc, v11 c]
      have w25 : thr (up3 (clS S i2) 29 0 0 (ea4 (cl1 S) i2).2) 0 11 0 25 = 0 := up3_at
      have w29 : thr (up3 (clS S i2) 29 0 0 (ea4 (cl1 S) i2).2) 0 29 0 0 = (ea4 (cl1 S) i2).2 := by
        unfold thr
        rw [up3_t (by omega)]
        exact up3_at
      have wC : ∀ t', t' < 11 → thr (up3 (clS S i2) 29 0 0 (ea4 (cl1 S) i2).2) 0 t' = clS S i2 t' := fun t' h => by
        unfold thr
        rw [up3_t (by omega), up3_t (by omega)]
      generalize thr (up3 (clS S i2) 29 0 0 (ea4 (cl1 S) i2).2) 0 = M0 at w12 w11 w25 w29 wC ⊢
      obtain ⟨es, hI2⟩ := close_Inv hI ht ei hi w12 w11 wC
      have kM := KM_mcl2 M0 i2
      have hOY : mO (mcl2 M0 i2) := by
        unfold mO
        rw [kM.1 21 (by omega) (by omega) (by omega) (by omega) (by omega) (by omega) (by omega) (by omega) (by omega), kM.1 22 (by omega) (by omega) (by omega) (by omega) (by omega) (by omega) (by omega) (by omega) (by omega), kM.1 23 (by omega) (by omega) (by omega) (by omega) (by omega) (by omega) (by omega) (by omega) (by omega), w12 21 (by omega) (by omega), w12 22 (by omega) (by omega), w12 23 (by omega) (by omega)]
        exact hI.mi.2.2.1
      have hO1 := mO_em hOY i2 2
      refine hr _ _ (by omega) ?_ (fun _ => ?_) hI2
      · rw [mcls_11 hO1 (by omega), kM.2 25 (by omega) (by omega) (by omega)]
        exact w25
      · rw [mcls_t hO1 (by omega) (by omega) (by omega) (by omega) (by omega) (by omega), kM.1 29 (by omega) (by omega) (by omega) (by omega) (by omega) (by omega) (by omega) (by omega) (by omega), w29]
        exact es
    · rw [v11 18] at hb
      omega
  · refine q1 _ (hk 1 _ (by omega) (fun Rt2 hr => ?_))
    exact m_close hI.mi (fun i2 ei2 hi2 => by omega) (fun _ => hr _ _ (by omega) rfl (fun w => absurd w (by omega)) hI.suc)
end CLOP
