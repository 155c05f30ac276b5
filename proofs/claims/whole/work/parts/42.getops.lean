/-! ===== the getters ===== -/
section GET
variable {g : Gl}
theorem op_11 : Op11 g Inv := fun t S p0 ht h0 hI Rt hk => by
  refine w_state (Ret := Rt) (fun R9 T9 q0 q1 => cn_state h0 hI.ci (fun j ej hj hjc => ?_) (fun hb => ?_))
  · refine q0 _ _ (by have h9 := hI.ci.mem hj; unfold MI at h9; omega) (hk 0 _ (by omega) (fun Rt2 hr => ?_))
    refine m_state h0 hI.mi (fun j2 ej2 hj2 hjc2 => ?_) (fun hb => ?_)
    · have e : j2 = j := by omega
      subst e
      have er := (hI.rf hj).1
      exact hr _ _ (by show _ ≤ S 17 0 j2 ∧ S 17 0 j2 ≤ _; rw [← er]; have h9 := hI.ci.mem hj; unfold MI at h9; omega) rfl (fun _ => er) hI.suc
    · exact absurd (show 0 ≤ p0 ∧ p0 < S 11 0 9 by rw [← hI.cnt]; omega) hb
  · refine q1 _ (hk 1 _ (by omega) (fun Rt2 hr => ?_))
    refine m_state h0 hI.mi (fun j2 ej2 hj2 hjc2 => ?_) (fun hb2 => hr _ _ (by omega) rfl (fun w => absurd w (by omega)) (hI.suc))
    rw [← hI.cnt] at hjc2
    omega
theorem op_12 : Op12 g Inv := fun t S p0 ht h0 hI Rt hk => by
  refine w_margin (Ret := Rt) (fun R9 T9 q0 q1 => cn_margin h0 hI.ci (fun j ej hj hjc => ?_) (fun hb => ?_))
  · refine q0 _ _ (by have h9 := hI.ci.mem hj; unfold MI at h9; omega) (hk 0 _ (by omega) (fun Rt2 hr => ?_))
    refine m_margin h0 hI.mi (fun j2 ej2 hj2 hjc2 => ?_) (fun hb => ?_)
    · have e : j2 = j := by omega
      subst e
      have er := (hI.rf hj).2.1
      exact hr _ _ (by show _ ≤ S 12 0 j2 ∧ S 12 0 j2 ≤ _; rw [← er]; have h9 := hI.ci.mem hj; unfold MI at h9; omega) rfl (fun _ => er) hI.suc
    · exact absurd (show 0 ≤ p0 ∧ p0 < S 11 0 9 by rw [← hI.cnt]; omega) hb
  · refine q1 _ (hk 1 _ (by omega) (fun Rt2 hr => ?_))
    refine m_margin h0 hI.mi (fun j2 ej2 hj2 hjc2 => ?_) (fun hb2 => hr _ _ (by omega) rfl (fun w => absurd w (by omega)) (hI.suc))
    rw [← hI.cnt] at hjc2
    omega
theorem op_13 : Op13 g Inv := fun t S p0 ht h0 hI Rt hk => by
  refine w_share (Ret := Rt) (fun R9 T9 q0 q1 => cn_share h0 hI.ci (fun j ej hj hjc => ?_) (fun hb => ?_))
  · refine q0 _ _ (by have h9 := hI.ci.mem hj; unfold MI at h9; omega) (hk 0 _ (by omega) (fun Rt2 hr => ?_))
    refine m_share h0 hI.mi (fun j2 ej2 hj2 hjc2 => ?_) (fun hb => ?_)
    · have e : j2 = j := by omega
      subst e
      have er := (hI.rf hj).2.2.1
      exact hr _ _ (by show _ ≤ S 13 0 j2 ∧ S 13 0 j2 ≤ _; rw [← er]; have h9 := hI.ci.mem hj; unfold MI at h9; omega) rfl (fun _ => er) hI.suc
    · exact absurd (show 0 ≤ p0 ∧ p0 < S 11 0 9 by rw [← hI.cnt]; omega) hb
  · refine q1 _ (hk 1 _ (by omega) (fun Rt2 hr => ?_))
    refine m_share h0 hI.mi (fun j2 ej2 hj2 hjc2 => ?_) (fun hb2 => hr _ _ (by omega) rfl (fun w => absurd w (by omega)) (hI.suc))
    rw [← hI.cnt] at hjc2
    omega
theorem op_14 : Op14 g Inv := fun t S p0 ht h0 hI Rt hk => by
  refine w_gain (Ret := Rt) (fun R9 T9 q0 q1 => cn_gain h0 hI.ci (fun j ej hj hjc => ?_) (fun hb => ?_))
  · refine q0 _ _ (by have h9 := hI.ci.mem hj; unfold MI at h9; omega) (hk 0 _ (by omega) (fun Rt2 hr => ?_))
    refine m_gain h0 hI.mi (fun j2 ej2 hj2 hjc2 => ?_) (fun hb => ?_)
    · have e : j2 = j := by omega
      subst e
      have er := (hI.rf hj).2.2.2.2.1
      exact hr _ _ (by show _ ≤ S 15 0 j2 ∧ S 15 0 j2 ≤ _; rw [← er]; have h9 := hI.ci.mem hj; unfold MI at h9; omega) rfl (fun _ => er) hI.suc
    · exact absurd (show 0 ≤ p0 ∧ p0 < S 11 0 9 by rw [← hI.cnt]; omega) hb
  · refine q1 _ (hk 1 _ (by omega) (fun Rt2 hr => ?_))
    refine m_gain h0 hI.mi (fun j2 ej2 hj2 hjc2 => ?_) (fun hb2 => hr _ _ (by omega) rfl (fun w => absurd w (by omega)) (hI.suc))
    rw [← hI.cnt] at hjc2
    omega
theorem op_16 : Op16 g Inv := fun t S p0 ht h0 hI Rt hk => by
  refine w_assessed (Ret := Rt) (fun R9 T9 q0 q1 => cn_assessed h0 hI.ci (fun j ej hj hjc => ?_) (fun hb => ?_))
  · refine q0 _ _ (by have h9 := (hI.rt.2.2.2 j hj).1; omega) (hk 0 _ (by omega) (fun Rt2 hr => ?_))
    refine m_assessed h0 hI.mi (fun j2 ej2 hj2 hjc2 => ?_) (fun hb => ?_)
    · have e : j2 = j := by omega
      subst e
      have er := (hI.rf hj).2.2.2.2.2.2.2.1
      exact hr _ _ (by show _ ≤ S 19 0 j2 ∧ S 19 0 j2 ≤ _; rw [← er]; have h9 := (hI.rt.2.2.2 j2 hj).1; omega) rfl (fun _ => er) hI.suc
    · exact absurd (show 0 ≤ p0 ∧ p0 < S 11 0 9 by rw [← hI.cnt]; omega) hb
  · refine q1 _ (hk 1 _ (by omega) (fun Rt2 hr => ?_))
    refine m_assessed h0 hI.mi (fun j2 ej2 hj2 hjc2 => ?_) (fun hb2 => hr _ _ (by omega) rfl (fun w => absurd w (by omega)) (hI.suc))
    rw [← hI.cnt] at hjc2
    omega
theorem op_18 : Op18 g Inv := fun t S p0 ht h0 hI Rt hk => by
  refine w_won (Ret := Rt) (fun R9 T9 q0 q1 => cn_won h0 hI.ci (fun j ej hj hjc => ?_) (fun hb => ?_))
  · refine q0 _ _ (by have h9 := (hI.rt.2.2.2 j hj).2; omega) (hk 0 _ (by omega) (fun Rt2 hr => ?_))
    refine m_won h0 hI.mi (fun j2 ej2 hj2 hjc2 => ?_) (fun hb => ?_)
    · have e : j2 = j := by omega
      subst e
      have er := (hI.rf hj).2.2.2.2.2.2.2.2.1
      exact hr _ _ (by show _ ≤ S 20 0 j2 ∧ S 20 0 j2 ≤ _; rw [← er]; have h9 := (hI.rt.2.2.2 j2 hj).2; omega) rfl (fun _ => er) hI.suc
    · exact absurd (show 0 ≤ p0 ∧ p0 < S 11 0 9 by rw [← hI.cnt]; omega) hb
  · refine q1 _ (hk 1 _ (by omega) (fun Rt2 hr => ?_))
    refine m_won h0 hI.mi (fun j2 ej2 hj2 hjc2 => ?_) (fun hb2 => hr _ _ (by omega) rfl (fun w => absurd w (by omega)) (hI.suc))
    rw [← hI.cnt] at hjc2
    omega
theorem op_15 : Op15 g Inv := fun t S p0 ht h0 hI Rt hk => by
  refine w_isJunior (Ret := Rt) (fun R9 T9 q0 q1 => cn_isJunior h0 hI.ci (fun j ej hj hjc => ?_) (fun hb => ?_))
  · have h9 := (hI.ci.mem hj).2.2.2.2.2.2.2.2.1
    refine q0 _ _ (by omega) (hk 0 _ (by omega) (fun Rt2 hr => ?_))
    refine m_isJunior h0 hI.mi (fun j2 ej2 hj2 hjc2 => ?_) (fun hb => ?_)
    · have e : j2 = j := by omega
      subst e
      have er := (hI.rf hj).2.2.2.2.2.2.1
      have ev : (if up3 S 29 0 0 (S 4 j2 9) 18 0 j2 = 1 then (1 : Int) else 0) = S 4 j2 9 := by
        show (if S 18 0 j2 = 1 then (1 : Int) else 0) = S 4 j2 9
        rw [← er]
        split <;> omega
      exact hr _ _ (by rw [ev]; omega) rfl (fun _ => ev.symm) hI.suc
    · exact absurd (show 0 ≤ p0 ∧ p0 < S 11 0 9 by rw [← hI.cnt]; omega) hb
  · refine q1 _ (hk 1 _ (by omega) (fun Rt2 hr => ?_))
    refine m_isJunior h0 hI.mi (fun j2 ej2 hj2 hjc2 => ?_) (fun hb2 => hr _ _ (by omega) rfl (fun w => absurd w (by omega)) (hI.suc))
    rw [← hI.cnt] at hjc2
    omega
theorem op_17 : Op17 g Inv := fun t S p0 ht h0 hI Rt hk => by
  refine w_clientLots (Ret := Rt) (fun R9 T9 q0 q1 => cn_clientLots h0 hI.ci (fun j ej hj hjc => ?_) (fun hb => ?_))
  · have h9 := (hI.ci.mem hj).2.1
    refine q0 _ _ (by omega) (hk 0 _ (by omega) (fun Rt2 hr => ?_))
    refine m_clientLots h0 hI.mi (fun j2 ej2 hj2 hjc2 => ?_) (fun hb => ?_)
    · have e : j2 = j := by omega
      subst e
      obtain ⟨s, hs⟩ := hI.rc j2 hj
      have er := hs.1.2.2
      exact hr _ _ (by show _ ≤ lotM S j2 (nC S) ∧ lotM S j2 (nC S) ≤ _; rw [← er]; omega) rfl (fun _ => er) hI.suc
    · exact absurd (show 0 ≤ p0 ∧ p0 < S 11 0 9 by rw [← hI.cnt]; omega) hb
  · refine q1 _ (hk 1 _ (by omega) (fun Rt2 hr => ?_))
    refine m_clientLots h0 hI.mi (fun j2 ej2 hj2 hjc2 => ?_) (fun hb2 => hr _ _ (by omega) rfl (fun w => absurd w (by omega)) (hI.suc))
    rw [← hI.cnt] at hjc2
    omega
theorem op_10 : Op10 g Inv := fun t S ht hI Rt hk => by
  refine cn_members (hk _ _ (by have h9 := hI.ci.cnt; omega) (fun Rt2 hr => ?_))
  refine m_members ?_
  rw [← hI.rs.1]
  exact hr _ (hI.suc.th 0)
theorem op_19 : Op19 g Inv := fun t S ht hI Rt hk => by
  refine cn_capital (hk _ _ (by have h9 := hI.ci.2.1; omega) (fun Rt2 hr => ?_))
  refine m_capital ?_
  rw [← hI.rs.2.1]
  exact hr _ (hI.suc.th 0)
theorem op_20 : Op20 g Inv := fun t S ht hI Rt hk => by
  refine cn_loss (hk _ _ (by have h9 := hI.ci.2.2.2.1; omega) (fun Rt2 hr => ?_))
  refine m_loss ?_
  rw [← hI.rs.2.2.1]
  exact hr _ (hI.suc.th 0)
theorem op_21 : Op21 g Inv := fun t S ht hI Rt hk => by
  refine cn_uncovered (hk _ _ (by have h9 := hI.rt.2.2.1; omega) (fun Rt2 hr => ?_))
  refine m_uncovered ?_
  rw [← hI.rs.2.2.2.1]
  exact hr _ (hI.suc.th 0)
theorem op_22 : Op22 g Inv := fun t S ht hI Rt hk => by
  refine cn_failing (hk _ _ (by have h9 := hI.ci.2.2.1; omega) (fun Rt2 hr => ?_))
  refine m_failing ?_
  rw [← hI.rs.2.2.2.2]
  exact hr _ (hI.suc.th 0)
end GET
