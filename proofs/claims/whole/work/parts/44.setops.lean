/-! ===== the setters: two sides ===== -/
section SETO
variable {g : Gl}
theorem op_2 : Op2 g Inv := fun t S p0 p1 ht h0 h1 hI Rt hk => by
  have hc := hI.cnt
  refine w_setGain (Ret := Rt) (fun R9 T9 q0 q1 q2 q3 => cn_setGain h0 h1 hI.ci (fun j ej hj hjc hv ha => ?_) (fun hb => ?_) (fun ha hb => ?_) (fun j ej hj hjc hv hb => ?_))
  · have hm := hI.ci.mem hj
    unfold MI at hm
    have er := (hI.rf hj).2.2.2.2.1
    have hma := (hI.act hj).mp ha
    refine q0 _ _ (by omega) (hk 0 _ (by omega) (fun Rt2 hr => ?_))
    refine m_setGain h0 h1 hI.mi (fun j2 ej2 hj2 hjc2 hv2 ha2 => ?_) (fun hb => ?_) (fun a b => ?_) (fun j2 ej2 hj2 hjc2 hv2 hb => ?_)
    · have e : j2 = j := by omega
      subst e
      exact hr _ _ (by show _ ≤ S 15 0 j2 ∧ S 15 0 j2 ≤ _; omega) rfl (fun _ => er) (Inv.gain hI hv).suc
    · exact absurd (show 0 ≤ p0 ∧ p0 < S 11 0 9 by omega) hb
    · exact absurd hv b
    · have e : j2 = j := by omega
      subst e
      exact absurd hma hb
  · refine q1 _ (hk 1 _ (by omega) (fun Rt2 hr => ?_))
    refine m_setGain h0 h1 hI.mi (fun j2 ej2 hj2 hjc2 hv2 ha2 => ?_) (fun hb => ?_) (fun a b => ?_) (fun j2 ej2 hj2 hjc2 hv2 hb => ?_)
    all_goals first | exact hr _ _ (by omega) rfl (fun w => absurd w (by omega)) hI.suc | (exfalso; omega) | (exfalso; exact absurd rfl (by assumption))
  · refine q2 _ (hk 2 _ (by omega) (fun Rt2 hr => ?_))
    refine m_setGain h0 h1 hI.mi (fun j2 ej2 hj2 hjc2 hv2 ha2 => ?_) (fun hb => ?_) (fun a b => ?_) (fun j2 ej2 hj2 hjc2 hv2 hb => ?_)
    all_goals first | exact hr _ _ (by omega) rfl (fun w => absurd w (by omega)) hI.suc | (exfalso; omega) | (exfalso; exact absurd rfl (by assumption))
  · refine q3 _ (hk 3 _ (by omega) (fun Rt2 hr => ?_))
    have hna : ¬ mact S j := fun w => hb ((hI.act hj).mpr w)
    refine m_setGain h0 h1 hI.mi (fun j2 ej2 hj2 hjc2 hv2 ha2 => ?_) (fun hb => ?_) (fun a b => ?_) (fun j2 ej2 hj2 hjc2 hv2 hb => ?_)
    · have e : j2 = j := by omega
      subst e
      exact absurd ha2 hna
    all_goals first | exact hr _ _ (by omega) rfl (fun w => absurd w (by omega)) hI.suc | (exfalso; omega) | (exfalso; exact absurd rfl (by assumption))
theorem op_3 : Op3 g Inv := fun t S p0 p1 ht h0 h1 hI Rt hk => by
  have hc := hI.cnt
  refine w_setTested (Ret := Rt) (fun R9 T9 q0 q1 q2 q3 => cn_setTested h0 h1 hI.ci (fun j ej hj hjc hv ha => ?_) (fun hb => ?_) (fun ha hb => ?_) (fun j ej hj hjc hv hb => ?_))
  · have hm := hI.ci.mem hj
    unfold MI at hm
    have er := (hI.rf hj).2.2.2.2.2.1
    have hma := (hI.act hj).mp ha
    refine q0 _ _ (by omega) (hk 0 _ (by omega) (fun Rt2 hr => ?_))
    refine m_setTested h0 h1 hI.mi (fun j2 ej2 hj2 hjc2 hv2 ha2 => ?_) (fun hb => ?_) (fun a b => ?_) (fun j2 ej2 hj2 hjc2 hv2 hb => ?_)
    · have e : j2 = j := by omega
      subst e
      exact hr _ _ (by show _ ≤ S 16 0 j2 ∧ S 16 0 j2 ≤ _; omega) rfl (fun _ => er) (Inv.tested hI hv).suc
    · exact absurd (show 0 ≤ p0 ∧ p0 < S 11 0 9 by omega) hb
    · exact absurd hv b
    · have e : j2 = j := by omega
      subst e
      exact absurd hma hb
  · refine q1 _ (hk 1 _ (by omega) (fun Rt2 hr => ?_))
    refine m_setTested h0 h1 hI.mi (fun j2 ej2 hj2 hjc2 hv2 ha2 => ?_) (fun hb => ?_) (fun a b => ?_) (fun j2 ej2 hj2 hjc2 hv2 hb => ?_)
    all_goals first | exact hr _ _ (by omega) rfl (fun w => absurd w (by omega)) hI.suc | (exfalso; omega) | (exfalso; exact absurd rfl (by assumption))
  · refine q2 _ (hk 2 _ (by omega) (fun Rt2 hr => ?_))
    refine m_setTested h0 h1 hI.mi (fun j2 ej2 hj2 hjc2 hv2 ha2 => ?_) (fun hb => ?_) (fun a b => ?_) (fun j2 ej2 hj2 hjc2 hv2 hb => ?_)
    all_goals first | exact hr _ _ (by omega) rfl (fun w => absurd w (by omega)) hI.suc | (exfalso; omega) | (exfalso; exact absurd rfl (by assumption))
  · refine q3 _ (hk 3 _ (by omega) (fun Rt2 hr => ?_))
    have hna : ¬ mact S j := fun w => hb ((hI.act hj).mpr w)
    refine m_setTested h0 h1 hI.mi (fun j2 ej2 hj2 hjc2 hv2 ha2 => ?_) (fun hb => ?_) (fun a b => ?_) (fun j2 ej2 hj2 hjc2 hv2 hb => ?_)
    · have e : j2 = j := by omega
      subst e
      exact absurd ha2 hna
    all_goals first | exact hr _ _ (by omega) rfl (fun w => absurd w (by omega)) hI.suc | (exfalso; omega) | (exfalso; exact absurd rfl (by assumption))
theorem op_4 : Op4 g Inv := fun t S p0 ht h0 hI Rt hk => by
  have hc := hI.rs.2.1
  have h2 := hI.ci.2.1
  refine w_setCapital (Ret := Rt) (fun R9 T9 q0 q1 => cn_setCapital h0 (fun hv => ?_) (fun hb => ?_))
  · refine q0 _ _ (by omega) (hk 0 _ (by omega) (fun Rt2 hr => ?_))
    refine m_setCapital h0 (fun hv2 => ?_) (fun hb => absurd hv hb)
    exact hr _ _ (by show _ ≤ S 11 0 15 ∧ S 11 0 15 ≤ _; omega) rfl (fun _ => hc) (Inv.capital hI hv).suc
  · refine q1 _ (hk 1 _ (by omega) (fun Rt2 hr => ?_))
    exact m_setCapital h0 (fun hv2 => absurd hv2 hb) (fun _ => hr _ _ (by omega) rfl (fun w => absurd w (by omega)) hI.suc)
theorem op_5 : Op5 g Inv := fun t S p0 ht h0 hI Rt hk => by
  have hc := hI.cnt
  have hf7 := hI.rs.2.2.2.2
  refine w_giveNotice (Ret := Rt) (fun R9 T9 q0 q1 q2 => cn_giveNotice h0 hI.ci (fun j ej hj hjc hs hf => ?_) (fun hb => ?_) (fun j ej hj hjc hb => ?_))
  · have er := (hI.rf hj).1
    refine q0 _ (hk 0 _ (by omega) (fun Rt2 hr => ?_))
    refine m_giveNotice h0 hI.mi (fun j2 ej2 hj2 hjc2 hs2 hf2 => ?_) (fun hb => ?_) (fun j2 ej2 hj2 hjc2 hb => ?_)
    · have e : j2 = j := by omega
      subst e
      exact hr _ rfl (Inv.state hI (v := 1) (by omega) hf).suc
    · exact absurd (show 0 ≤ p0 ∧ p0 < S 11 0 9 by omega) hb
    · have e : j2 = j := by omega
      subst e
      exact absurd (show S 17 0 j2 = 0 ∧ S 11 0 18 = -1 by omega) hb
  · refine q1 _ (hk 1 _ (by omega) (fun Rt2 hr => ?_))
    refine m_giveNotice h0 hI.mi (fun j2 ej2 hj2 hjc2 hs2 hf2 => ?_) (fun hb => ?_) (fun j2 ej2 hj2 hjc2 hb => ?_)
    all_goals first | exact hr _ rfl hI.suc | (exfalso; omega)
  · refine q2 _ (hk 2 _ (by omega) (fun Rt2 hr => ?_))
    have er := (hI.rf hj).1
    refine m_giveNotice h0 hI.mi (fun j2 ej2 hj2 hjc2 hs2 hf2 => ?_) (fun hb => ?_) (fun j2 ej2 hj2 hjc2 hb => ?_)
    · have e : j2 = j := by omega
      subst e
      exact absurd (show S 4 j2 3 = 0 ∧ S 0 0 7 = -1 by omega) hb
    all_goals first | exact hr _ rfl hI.suc | (exfalso; omega)
end SETO
