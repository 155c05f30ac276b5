/-! ===== addMember, addClient, bid: two sides ===== -/
def bdS (S : St) (j l : Nat) (v : Int) : St := up3 (up3 S 7 j l v) 24 0 (10 * l + j) v
theorem Inv.bid {t : Nat} {S : St} (h : Inv t S) {j l : Nat} (hj : j < 10) (hl : l < 120) {v : Int} (hv : -1000 ≤ v ∧ v ≤ 1000) (hjc : (j : Int) < S 0 0 3) : Inv t (bdS S j l v) := by
  have hm := h.mi
  have hN := hm.1
  unfold mN at hN
  have e7 : ∀ i k, bdS S j l v 7 i k = if i = j ∧ k = l then v else S 7 i k := fun i k => by simp [bdS, up3]
  have e24 : ∀ k, bdS S j l v 24 0 k = if k = 10 * l + j then v else S 24 0 k := fun k => by simp [bdS, up3]
  have hci : CI (bdS S j l v) := by
    obtain ⟨a1, a2, a3, a4, a5, a6, a7⟩ := h.ci
    refine ⟨a1, a2, a3, a4, ⟨a5.1, fun i hi k hk => ?_⟩, a6, a7⟩
    have h9 := a5.2 i hi k hk
    rw [e7]
    split <;> omega
  have hB : mB (bdS S j l v) := fun k hk => by
    have h9 := hm.2.2.2.1 k hk
    rw [e24]
    split <;> omega
  refine ⟨hci, mI_of hci h.2.2.2.1 h.rs hN.2.1 hN.2.2.1 hN.2.2.2.2.2 hm.2.2.1 hB hm.2.2.2.2, h.rs, h.2.2.2.1, fun q => ?_, h.rz, h.rc, h.rx, h.rt, h.rwf⟩
  have hb := h.rb q
  refine ⟨hb.1, fun i hi l2 hl2 => ?_⟩
  have hl2' : (l2 : Int) < S 2 0 1 := hl2
  have h9 := hb.2 i hi l2 hl2'
  have hc : bdS S j l v 0 0 3 = S 0 0 3 := rfl
  rw [e7, e24, hc]
  by_cases q9 : i = j ∧ l2 = l
  · rw [if_pos q9, if_pos (by omega)]
    refine ⟨?_, fun w => by omega⟩
    unfold trB
    rw [if_neg (by omega)]
  · rw [if_neg q9, if_neg (by omega)]
    exact h9
section BIDO
variable {g : Gl}
theorem op_0 : Op0 g Inv := fun t S p0 p1 p2 ht h0 h1 h2 hI Rt hk => by
  have hc := hI.cnt
  refine w_addMember (Ret := Rt) (fun R9 T9 q0 q1 q2 => cn_addMember h0 h1 h2 hI.ci (fun j ej hj ha hb hc9 => ?_) (fun hb => ?_) (fun ha hb => ?_))
  · refine q0 _ _ (by omega) (hk 0 _ (by omega) (fun Rt2 hr => ?_))
    refine m_addMember h0 h1 h2 (S := up3 (up3 (joinS S j p0 p1 p2) 0 0 3 (j + 1 : Int)) 29 0 0 j) hI.mi (fun j2 ej2 hj2 ha2 hb2 hc2 => ?_) (fun hb2 => absurd ⟨ha, hb, hc9⟩ hb2) (fun ha2 hb2 => ?_)
    · have ej3 : S 11 0 9 = j2 := ej2
      have e : j2 = j := by omega
      subst e
      exact hr _ _ (by omega) rfl (fun _ => rfl) (Inv.join hI ej hj ha hb hc9).suc
    · have hb3 : ¬ S 11 0 9 < 10 := hb2
      omega
  · refine q1 _ (hk 1 _ (by omega) (fun Rt2 hr => ?_))
    exact m_addMember h0 h1 h2 hI.mi (fun j2 ej2 hj2 ha2 hb2 hc2 => absurd ⟨ha2, hb2, hc2⟩ hb) (fun _ => hr _ _ (by omega) rfl (fun w => absurd w (by omega)) hI.suc) (fun ha2 _ => absurd ha2 hb)
  · refine q2 _ (hk 2 _ (by omega) (fun Rt2 hr => ?_))
    exact m_addMember h0 h1 h2 hI.mi (fun j2 ej2 hj2 ha2 hb2 hc2 => absurd hj2 (by omega)) (fun hb2 => absurd ha hb2) (fun _ _ => hr _ _ (by omega) rfl (fun w => absurd w (by omega)) hI.suc)
theorem op_1 : Op1 g Inv := fun t S p0 p1 ht h0 h1 hI Rt hk => by
  have hc := hI.cnt
  have hrom : ∀ j, j < 10 → romM S j = S 4 j 6 - S 4 j 2 := fun j hj => by
    obtain ⟨s, hs⟩ := hI.rc j hj
    have e1 := hs.1.2.2
    have e2 := (hI.rf hj).2.2.2.1
    unfold romM
    omega
  refine w_addClient (Ret := Rt) (fun R9 T9 q0 q1 q2 q3 => cn_addClient h0 h1 hI.ci (fun j ej hj hjc hv ha htk => ?_) (fun hb => ?_) (fun ha hb => ?_) (fun j ej hj hjc hv hb => ?_))
  · have hm := hI.ci.mem hj
    unfold MI at hm
    have hma := (hI.act hj).mp ha
    have hro := hrom j hj
    have htk1 := htk.1
    refine q0 _ _ (by omega) (hk 0 _ (by omega) (fun Rt2 hr => ?_))
    refine m_addClient h0 h1 (S := up3 (takeS S j p1) 29 0 0 (S 4 j 6 - (S 4 j 2 + p1))) hI.mi (fun j2 ej2 hj2 hjc2 hv2 ha2 hr2 S' hS' => ?_) (fun hb => ?_) (fun a b => ?_) (fun j2 ej2 hj2 hjc2 hv2 hb => ?_)
    · have e : j2 = j := by omega
      subst e
      subst ej2
      obtain ⟨hI2, hl2⟩ := Inv.take hI ht hj hjc hv htk1
      have hI3 : Inv (t + 1) S' := by rw [hS']; exact hI2
      have hl3 : S' 4 j2 2 = S 4 j2 2 + p1 := by rw [hS']; exact hl2
      have hl4 : S' 4 j2 6 = S 4 j2 6 := by rw [hS']; simp [up3, takeS, thr]
      have hro2 : romM S' j2 = S' 4 j2 6 - S' 4 j2 2 := by
        obtain ⟨s, hs⟩ := hI3.rc j2 hj
        have e1 := hs.1.2.2
        have e2 := (hI3.rf hj).2.2.2.1
        unfold romM
        omega
      exact hr _ _ (by omega) (by rw [hS']; rfl) (fun _ => by rw [hro2, hl3, hl4, hS']; rfl) hI3
    · exact absurd (show 0 ≤ p0 ∧ p0 < S 11 0 9 by omega) hb
    · exact absurd hv b
    · have e : j2 = j := by omega
      subst e
      exact absurd (⟨hma, by rw [hro]; exact htk1⟩ : mact S j2 ∧ p1 ≤ romM S j2) hb
  · refine q1 _ (hk 1 _ (by omega) (fun Rt2 hr => ?_))
    refine m_addClient h0 h1 hI.mi (fun j2 ej2 hj2 hjc2 hv2 ha2 hr2 S' hS' => ?_) (fun hb => ?_) (fun a b => ?_) (fun j2 ej2 hj2 hjc2 hv2 hb => ?_)
    all_goals first | exact hr _ _ (by omega) rfl (fun w => absurd w (by omega)) hI.suc | (exfalso; omega)
  · refine q2 _ (hk 2 _ (by omega) (fun Rt2 hr => ?_))
    refine m_addClient h0 h1 hI.mi (fun j2 ej2 hj2 hjc2 hv2 ha2 hr2 S' hS' => ?_) (fun hb => ?_) (fun a b => ?_) (fun j2 ej2 hj2 hjc2 hv2 hb => ?_)
    all_goals first | exact hr _ _ (by omega) rfl (fun w => absurd w (by omega)) hI.suc | (exfalso; omega)
  · refine q3 _ (hk 3 _ (by omega) (fun Rt2 hr => ?_))
    have hro := hrom j hj
    obtain ⟨s, hs⟩ := hI.rc j hj
    have hm := hI.ci.mem hj
    have hs1 := hs.1
    unfold MI at hm
    refine m_addClient h0 h1 hI.mi (fun j2 ej2 hj2 hjc2 hv2 ha2 hr2 S' hS' => ?_) (fun hb => ?_) (fun a b => ?_) (fun j2 ej2 hj2 hjc2 hv2 hb => ?_)
    · have e : j2 = j := by omega
      subst e
      exact absurd ⟨(hI.act hj).mpr ha2, (by omega : p1 ≤ S 4 j2 6 - S 4 j2 2), (by omega : S 4 j2 1 < 100)⟩ hb
    all_goals first | exact hr _ _ (by omega) rfl (fun w => absurd w (by omega)) hI.suc | (exfalso; omega)
theorem op_8 : Op8 g Inv := fun t S p0 p1 p2 ht h0 h1 h2 hI Rt hk => by
  have hc := hI.cnt
  have hf7 := hI.rs.2.2.2.2
  have hlt : S 0 0 7 ≠ -1 → S 2 0 1 = S 11 0 19 := fun q => (hI.rb q).1
  have hA := hI.ci.2.2.2.2.1
  have hA1 := hA.1
  have heq : ∀ j l : Nat, j < 10 → S 0 0 7 ≠ -1 → (l : Int) < S 2 0 1 → (S 7 j l = -1001 ↔ S 24 0 (10 * l + j) = 5000) := fun j l hj q hl => by
    have h9 := ((hI.rb q).2 j hj l hl).1
    have h8 := hI.mi.2.2.2.1 (10 * l + j) (by omega)
    rw [h9]
    unfold trB
    split <;> omega
  refine w_bid (Ret := Rt) (fun R9 T9 q0 q1 q2 q3 => cn_bid h0 h1 h2 hI.ci (fun j l ej el hj hl hjc hf hll hv ha hb => ?_) (fun hb => ?_) (fun ha hb => ?_) (fun j l ej el hj hl hjc hf hll hv hb => ?_))
  · have hma := (hI.act hj).mp ha
    have hb2 := (heq j l hj hf hll).mp hb
    have hl9 := hlt hf
    refine q0 _ (hk 0 _ (by omega) (fun Rt2 hr => ?_))
    have hmi : mI (up3 S 7 j l p2) := hI.mi
    refine m_bid h0 h1 h2 hmi (fun j2 l2 ej2 el2 hj2 hl2 hjc2 hf2 hll2 hv2 ha2 hb2 => ?_) (fun hb => ?_) (fun a b => ?_) (fun j2 l2 ej2 el2 hj2 hl2 hjc2 hf2 hll2 hv2 hb => ?_)
    · have e : j2 = j := by omega
      have e2 : l2 = l := by omega
      subst e
      subst e2
      exact hr _ rfl (Inv.bid hI hj hl hv hjc).suc
    · exact absurd (show (0 ≤ p0 ∧ p0 < S 11 0 9) ∧ S 11 0 18 ≠ -1 ∧ 0 ≤ p1 ∧ p1 < S 11 0 19 by omega) hb
    · exact absurd hv b
    · have e : j2 = j := by omega
      have e2 : l2 = l := by omega
      subst e
      subst e2
      exact absurd (⟨hma, hb2⟩ : mact S j2 ∧ S 24 0 (10 * l2 + j2) = 5000) hb
  · refine q1 _ (hk 1 _ (by omega) (fun Rt2 hr => ?_))
    refine m_bid h0 h1 h2 hI.mi (fun j2 l2 ej2 el2 hj2 hl2 hjc2 hf2 hll2 hv2 ha2 hb2 => ?_) (fun hb => ?_) (fun a b => ?_) (fun j2 l2 ej2 el2 hj2 hl2 hjc2 hf2 hll2 hv2 hb => ?_)
    all_goals first | exact hr _ rfl hI.suc | (exfalso; have h9 := hlt (by omega); omega)
  · have h9 := hlt ha.2.1
    refine q2 _ (hk 2 _ (by omega) (fun Rt2 hr => ?_))
    refine m_bid h0 h1 h2 hI.mi (fun j2 l2 ej2 el2 hj2 hl2 hjc2 hf2 hll2 hv2 ha2 hb2 => ?_) (fun hb => ?_) (fun a b => ?_) (fun j2 l2 ej2 el2 hj2 hl2 hjc2 hf2 hll2 hv2 hb => ?_)
    all_goals first | exact hr _ rfl hI.suc | (exfalso; omega)
  · have h9 := hlt hf
    refine q3 _ (hk 3 _ (by omega) (fun Rt2 hr => ?_))
    refine m_bid h0 h1 h2 hI.mi (fun j2 l2 ej2 el2 hj2 hl2 hjc2 hf2 hll2 hv2 ha2 hb2 => ?_) (fun hb => ?_) (fun a b => ?_) (fun j2 l2 ej2 el2 hj2 hl2 hjc2 hf2 hll2 hv2 hb => ?_)
    · have e : j2 = j := by omega
      have e2 : l2 = l := by omega
      subst e
      subst e2
      exact absurd ⟨(hI.act hj).mpr ha2, (heq j2 l2 hj hf hll).mpr hb2⟩ hb
    all_goals first | exact hr _ rfl hI.suc | (exfalso; omega)
end BIDO
