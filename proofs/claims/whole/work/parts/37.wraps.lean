/-! ===== the 18 wrappers of the law ===== -/
section WR
variable {g : Gl} {S : St} {Ret : Option AV → St → Prop}
abbrev hh_addMember : HH := [(0, 12, 15, 13), (0, 12, 19, 15)]
theorem w_addMember {p0 p1 p2 : Int} (hC : ∀ (Rt : Option AV → St → Prop) (Th : String → St → Prop), (∀ (x : Int) (S' : St), (-2147483648 ≤ x ∧ x ≤ 2147483647) → Ret (some (vI 0)) (up3 S' 29 0 0 x) → Rt (some (vI x)) S') → (∀ S' : St, Ret (some (vI 1)) S' → Th E_A S') → (∀ S' : St, Ret (some (vI 2)) S' → Th E_S S') → Cn g yX3_addMember cX3_addMember 4 (some .int) 7 112 4 [vR 0 0, vI p0, vI p1, vI p2] S Rt Th) : CnH g yL_addMember cL_addMember 6 (some .int) hh_addMember 8 135 4 [vR 0 0, vI p0, vI p1, vI p2, vR 29 0] S Ret (fun _ _ => False) := by
  refine enterH (L := [some (vR 0 0), some (vI p0), some (vI p1), some (vI p2), some (vR 29 0), none]) (by decide +kernel) rfl (Nat.le_of_ble_eq_true rfl) rfl (fun K MM => ?_)
  have M := MM.mk
  refine r_aload M dL_addMember_0 rfl ?_
  refine r_iconst M dL_addMember_2 ?_
  refine r_aload_n M dL_addMember_3 rfl ?_
  refine r_iload_n M dL_addMember_4 rfl ?_
  refine r_iload_n M dL_addMember_5 rfl ?_
  refine r_iload_n M dL_addMember_6 rfl ?_
  refine rH_callV (As := [vI p0, vI p1, vI p2]) (rst := [vI 0, vR 29 0]) MM dL_addMember_7 ck_L_7 vk_X3_addMember rfl ⟨by omega, by omega, by omega⟩ ⟨by decide, by decide, rfl⟩ (by decide) (Nat.le_of_ble_eq_true rfl) (hC _ _ (fun x S9 hx hr => ?_) (fun S9 hr => ?_) (fun S9 hr => ?_))
  · refine r_i2l M dL_addMember_10 (by exact hx) ?_
    refine r_last M dL_addMember_11 ?_
    refine r_goto M dL_addMember_12 (tgt := 23) rfl ?_
    refine r_iconst M dL_addMember_23 ?_
    refine rH_iret MM dL_addMember_24 ?_
    exact hr
  · refine ⟨[], (0, 12, 15, 13), [(0, 12, 19, 15)], rfl, rfl, Or.inl ⟨rfl, rfl⟩, (fun z hz => nomatch hz), fun qa => ?_⟩
    refine r_xstore_5 M dL_addMember_15 (by decide) rfl ?_
    refine r_iconst M dL_addMember_17 ?_
    refine rH_iret MM dL_addMember_18 ?_
    exact hr
  · refine ⟨[(0, 12, 15, 13)], (0, 12, 19, 15), [], rfl, rfl, Or.inr (Or.inl ⟨rfl, rfl⟩), (fun z hz => ?_), fun qa => ?_⟩
    · simp only [List.mem_cons, List.not_mem_nil, or_false] at hz
      rcases hz with rfl
      · exact ⟨E_A, Or.inl ⟨rfl, rfl⟩, by decide +kernel⟩
    · refine r_xstore_5 M dL_addMember_19 (by decide) rfl ?_
      refine r_iconst M dL_addMember_21 ?_
      refine rH_iret MM dL_addMember_22 ?_
      exact hr
abbrev hh_addClient : HH := [(0, 10, 13, 21), (0, 10, 17, 13), (0, 10, 21, 15)]
theorem w_addClient {p0 p1 : Int} (hC : ∀ (Rt : Option AV → St → Prop) (Th : String → St → Prop), (∀ (x : Int) (S' : St), (-2147483648 ≤ x ∧ x ≤ 2147483647) → Ret (some (vI 0)) (up3 S' 29 0 0 x) → Rt (some (vI x)) S') → (∀ S' : St, Ret (some (vI 1)) S' → Th E_B S') → (∀ S' : St, Ret (some (vI 2)) S' → Th E_A S') → (∀ S' : St, Ret (some (vI 3)) S' → Th E_S S') → Cn g yX3_addClient cX3_addClient 4 (some .int) 7 112 4 [vR 0 0, vI p0, vI p1] S Rt Th) : CnH g yL_addClient cL_addClient 5 (some .int) hh_addClient 8 135 4 [vR 0 0, vI p0, vI p1, vR 29 0] S Ret (fun _ _ => False) := by
  refine enterH (L := [some (vR 0 0), some (vI p0), some (vI p1), some (vR 29 0), none]) (by decide +kernel) rfl (Nat.le_of_ble_eq_true rfl) rfl (fun K MM => ?_)
  have M := MM.mk
  refine r_aload_n M dL_addClient_0 rfl ?_
  refine r_iconst M dL_addClient_1 ?_
  refine r_aload_n M dL_addClient_2 rfl ?_
  refine r_iload_n M dL_addClient_3 rfl ?_
  refine r_iload_n M dL_addClient_4 rfl ?_
  refine rH_callV (As := [vI p0, vI p1]) (rst := [vI 0, vR 29 0]) MM dL_addClient_5 ck_L_17 vk_X3_addClient rfl ⟨by omega, by omega, by omega⟩ ⟨by decide, by decide, rfl⟩ (by decide) (Nat.le_of_ble_eq_true rfl) (hC _ _ (fun x S9 hx hr => ?_) (fun S9 hr => ?_) (fun S9 hr => ?_) (fun S9 hr => ?_))
  · refine r_i2l M dL_addClient_8 (by exact hx) ?_
    refine r_last M dL_addClient_9 ?_
    refine r_goto M dL_addClient_10 (tgt := 25) rfl ?_
    refine r_iconst M dL_addClient_25 ?_
    refine rH_iret MM dL_addClient_26 ?_
    exact hr
  · refine ⟨[], (0, 10, 13, 21), [(0, 10, 17, 13), (0, 10, 21, 15)], rfl, rfl, Or.inr (Or.inr ⟨rfl, rfl⟩), (fun z hz => nomatch hz), fun qa => ?_⟩
    refine r_xstore_4 M dL_addClient_13 (by decide) rfl ?_
    refine r_iconst M dL_addClient_15 ?_
    refine rH_iret MM dL_addClient_16 ?_
    exact hr
  · refine ⟨[(0, 10, 13, 21)], (0, 10, 17, 13), [(0, 10, 21, 15)], rfl, rfl, Or.inl ⟨rfl, rfl⟩, (fun z hz => ?_), fun qa => ?_⟩
    · simp only [List.mem_cons, List.not_mem_nil, or_false] at hz
      rcases hz with rfl
      · exact ⟨E_B, Or.inr (Or.inr ⟨rfl, rfl⟩), by decide +kernel⟩
    · refine r_xstore_4 M dL_addClient_17 (by decide) rfl ?_
      refine r_iconst M dL_addClient_19 ?_
      refine rH_iret MM dL_addClient_20 ?_
      exact hr
  · refine ⟨[(0, 10, 13, 21), (0, 10, 17, 13)], (0, 10, 21, 15), [], rfl, rfl, Or.inr (Or.inl ⟨rfl, rfl⟩), (fun z hz => ?_), fun qa => ?_⟩
    · simp only [List.mem_cons, List.not_mem_nil, or_false] at hz
      rcases hz with rfl | rfl
      · exact ⟨E_B, Or.inr (Or.inr ⟨rfl, rfl⟩), by decide +kernel⟩
      · exact ⟨E_A, Or.inl ⟨rfl, rfl⟩, by decide +kernel⟩
    · refine r_xstore_4 M dL_addClient_21 (by decide) rfl ?_
      refine r_iconst M dL_addClient_23 ?_
      refine rH_iret MM dL_addClient_24 ?_
      exact hr
abbrev hh_setGain : HH := [(0, 10, 13, 21), (0, 10, 17, 13), (0, 10, 21, 15)]
theorem w_setGain {p0 p1 : Int} (hC : ∀ (Rt : Option AV → St → Prop) (Th : String → St → Prop), (∀ (x : Int) (S' : St), (-2147483648 ≤ x ∧ x ≤ 2147483647) → Ret (some (vI 0)) (up3 S' 29 0 0 x) → Rt (some (vI x)) S') → (∀ S' : St, Ret (some (vI 1)) S' → Th E_B S') → (∀ S' : St, Ret (some (vI 2)) S' → Th E_A S') → (∀ S' : St, Ret (some (vI 3)) S' → Th E_S S') → Cn g yX3_setGain cX3_setGain 5 (some .int) 7 112 3 [vR 0 0, vI p0, vI p1] S Rt Th) : CnH g yL_setGain cL_setGain 5 (some .int) hh_setGain 8 136 3 [vR 0 0, vI p0, vI p1, vR 29 0] S Ret (fun _ _ => False) := by
  refine enterH (L := [some (vR 0 0), some (vI p0), some (vI p1), some (vR 29 0), none]) (by decide +kernel) rfl (Nat.le_of_ble_eq_true rfl) rfl (fun K MM => ?_)
  have M := MM.mk
  refine r_aload_n M dL_setGain_0 rfl ?_
  refine r_iconst M dL_setGain_1 ?_
  refine r_aload_n M dL_setGain_2 rfl ?_
  refine r_iload_n M dL_setGain_3 rfl ?_
  refine r_iload_n M dL_setGain_4 rfl ?_
  refine rH_callV (As := [vI p0, vI p1]) (rst := [vI 0, vR 29 0]) MM dL_setGain_5 ck_L_23 vk_X3_setGain rfl ⟨by omega, by omega, by omega⟩ ⟨by decide, by decide, rfl⟩ (by decide) (Nat.le_of_ble_eq_true rfl) (hC _ _ (fun x S9 hx hr => ?_) (fun S9 hr => ?_) (fun S9 hr => ?_) (fun S9 hr => ?_))
  · refine r_i2l M dL_setGain_8 (by exact hx) ?_
    refine r_last M dL_setGain_9 ?_
    refine r_goto M dL_setGain_10 (tgt := 25) rfl ?_
    refine r_iconst M dL_setGain_25 ?_
    refine rH_iret MM dL_setGain_26 ?_
    exact hr
  · refine ⟨[], (0, 10, 13, 21), [(0, 10, 17, 13), (0, 10, 21, 15)], rfl, rfl, Or.inr (Or.inr ⟨rfl, rfl⟩), (fun z hz => nomatch hz), fun qa => ?_⟩
    refine r_xstore_4 M dL_setGain_13 (by decide) rfl ?_
    refine r_iconst M dL_setGain_15 ?_
    refine rH_iret MM dL_setGain_16 ?_
    exact hr
  · refine ⟨[(0, 10, 13, 21)], (0, 10, 17, 13), [(0, 10, 21, 15)], rfl, rfl, Or.inl ⟨rfl, rfl⟩, (fun z hz => ?_), fun qa => ?_⟩
    · simp only [List.mem_cons, List.not_mem_nil, or_false] at hz
      rcases hz with rfl
      · exact ⟨E_B, Or.inr (Or.inr ⟨rfl, rfl⟩), by decide +kernel⟩
    · refine r_xstore_4 M dL_setGain_17 (by decide) rfl ?_
      refine r_iconst M dL_setGain_19 ?_
      refine rH_iret MM dL_setGain_20 ?_
      exact hr
  · refine ⟨[(0, 10, 13, 21), (0, 10, 17, 13)], (0, 10, 21, 15), [], rfl, rfl, Or.inr (Or.inl ⟨rfl, rfl⟩), (fun z hz => ?_), fun qa => ?_⟩
    · simp only [List.mem_cons, List.not_mem_nil, or_false] at hz
      rcases hz with rfl | rfl
      · exact ⟨E_B, Or.inr (Or.inr ⟨rfl, rfl⟩), by decide +kernel⟩
      · exact ⟨E_A, Or.inl ⟨rfl, rfl⟩, by decide +kernel⟩
    · refine r_xstore_4 M dL_setGain_21 (by decide) rfl ?_
      refine r_iconst M dL_setGain_23 ?_
      refine rH_iret MM dL_setGain_24 ?_
      exact hr
abbrev hh_setTested : HH := [(0, 10, 13, 21), (0, 10, 17, 13), (0, 10, 21, 15)]
theorem w_setTested {p0 p1 : Int} (hC : ∀ (Rt : Option AV → St → Prop) (Th : String → St → Prop), (∀ (x : Int) (S' : St), (-2147483648 ≤ x ∧ x ≤ 2147483647) → Ret (some (vI 0)) (up3 S' 29 0 0 x) → Rt (some (vI x)) S') → (∀ S' : St, Ret (some (vI 1)) S' → Th E_B S') → (∀ S' : St, Ret (some (vI 2)) S' → Th E_A S') → (∀ S' : St, Ret (some (vI 3)) S' → Th E_S S') → Cn g yX3_setTested cX3_setTested 5 (some .int) 7 112 3 [vR 0 0, vI p0, vI p1] S Rt Th) : CnH g yL_setTested cL_setTested 5 (some .int) hh_setTested 8 136 3 [vR 0 0, vI p0, vI p1, vR 29 0] S Ret (fun _ _ => False) := by
  refine enterH (L := [some (vR 0 0), some (vI p0), some (vI p1), some (vR 29 0), none]) (by decide +kernel) rfl (Nat.le_of_ble_eq_true rfl) rfl (fun K MM => ?_)
  have M := MM.mk
  refine r_aload_n M dL_setTested_0 rfl ?_
  refine r_iconst M dL_setTested_1 ?_
  refine r_aload_n M dL_setTested_2 rfl ?_
  refine r_iload_n M dL_setTested_3 rfl ?_
  refine r_iload_n M dL_setTested_4 rfl ?_
  refine rH_callV (As := [vI p0, vI p1]) (rst := [vI 0, vR 29 0]) MM dL_setTested_5 ck_L_26 vk_X3_setTested rfl ⟨by omega, by omega, by omega⟩ ⟨by decide, by decide, rfl⟩ (by decide) (Nat.le_of_ble_eq_true rfl) (hC _ _ (fun x S9 hx hr => ?_) (fun S9 hr => ?_) (fun S9 hr => ?_) (fun S9 hr => ?_))
  · refine r_i2l M dL_setTested_8 (by exact hx) ?_
    refine r_last M dL_setTested_9 ?_
    refine r_goto M dL_setTested_10 (tgt := 25) rfl ?_
    refine r_iconst M dL_setTested_25 ?_
    refine rH_iret MM dL_setTested_26 ?_
    exact hr
  · refine ⟨[], (0, 10, 13, 21), [(0, 10, 17, 13), (0, 10, 21, 15)], rfl, rfl, Or.inr (Or.inr ⟨rfl, rfl⟩), (fun z hz => nomatch hz), fun qa => ?_⟩
    refine r_xstore_4 M dL_setTested_13 (by decide) rfl ?_
    refine r_iconst M dL_setTested_15 ?_
    refine rH_iret MM dL_setTested_16 ?_
    exact hr
  · refine ⟨[(0, 10, 13, 21)], (0, 10, 17, 13), [(0, 10, 21, 15)], rfl, rfl, Or.inl ⟨rfl, rfl⟩, (fun z hz => ?_), fun qa => ?_⟩
    · simp only [List.mem_cons, List.not_mem_nil, or_false] at hz
      rcases hz with rfl
      · exact ⟨E_B, Or.inr (Or.inr ⟨rfl, rfl⟩), by decide +kernel⟩
    · refine r_xstore_4 M dL_setTested_17 (by decide) rfl ?_
      refine r_iconst M dL_setTested_19 ?_
      refine rH_iret MM dL_setTested_20 ?_
      exact hr
  · refine ⟨[(0, 10, 13, 21), (0, 10, 17, 13)], (0, 10, 21, 15), [], rfl, rfl, Or.inr (Or.inl ⟨rfl, rfl⟩), (fun z hz => ?_), fun qa => ?_⟩
    · simp only [List.mem_cons, List.not_mem_nil, or_false] at hz
      rcases hz with rfl | rfl
      · exact ⟨E_B, Or.inr (Or.inr ⟨rfl, rfl⟩), by decide +kernel⟩
      · exact ⟨E_A, Or.inl ⟨rfl, rfl⟩, by decide +kernel⟩
    · refine r_xstore_4 M dL_setTested_21 (by decide) rfl ?_
      refine r_iconst M dL_setTested_23 ?_
      refine rH_iret MM dL_setTested_24 ?_
      exact hr
abbrev hh_setCapital : HH := [(0, 9, 12, 13)]
theorem w_setCapital {p0 : Int} (hC : ∀ (Rt : Option AV → St → Prop) (Th : String → St → Prop), (∀ (x : Int) (S' : St), (-2147483648 ≤ x ∧ x ≤ 2147483647) → Ret (some (vI 0)) (up3 S' 29 0 0 x) → Rt (some (vI x)) S') → (∀ S' : St, Ret (some (vI 1)) S' → Th E_A S') → Cn g yX3_setCapital cX3_setCapital 3 (some .int) 7 112 1 [vR 0 0, vI p0] S Rt Th) : CnH g yL_setCapital cL_setCapital 4 (some .int) hh_setCapital 8 134 1 [vR 0 0, vI p0, vR 29 0] S Ret (fun _ _ => False) := by
  refine enterH (L := [some (vR 0 0), some (vI p0), some (vR 29 0), none]) (by decide +kernel) rfl (Nat.le_of_ble_eq_true rfl) rfl (fun K MM => ?_)
  have M := MM.mk
  refine r_aload_n M dL_setCapital_0 rfl ?_
  refine r_iconst M dL_setCapital_1 ?_
  refine r_aload_n M dL_setCapital_2 rfl ?_
  refine r_iload_n M dL_setCapital_3 rfl ?_
  refine rH_callV (As := [vI p0]) (rst := [vI 0, vR 29 0]) MM dL_setCapital_4 ck_L_29 vk_X3_setCapital rfl ⟨by omega, by omega, by omega⟩ ⟨by decide, by decide, rfl⟩ (by decide) (Nat.le_of_ble_eq_true rfl) (hC _ _ (fun x S9 hx hr => ?_) (fun S9 hr => ?_))
  · refine r_i2l M dL_setCapital_7 (by exact hx) ?_
    refine r_last M dL_setCapital_8 ?_
    refine r_goto M dL_setCapital_9 (tgt := 15) rfl ?_
    refine r_iconst M dL_setCapital_15 ?_
    refine rH_iret MM dL_setCapital_16 ?_
    exact hr
  · refine ⟨[], (0, 9, 12, 13), [], rfl, rfl, Or.inl ⟨rfl, rfl⟩, (fun z hz => nomatch hz), fun qa => ?_⟩
    refine r_xstore_3 M dL_setCapital_12 (by decide) rfl ?_
    refine r_iconst M dL_setCapital_13 ?_
    refine rH_iret MM dL_setCapital_14 ?_
    exact hr
abbrev hh_giveNotice : HH := [(0, 5, 8, 21), (0, 5, 11, 15)]
theorem w_giveNotice {p0 : Int} (hC : ∀ (Rt : Option AV → St → Prop) (Th : String → St → Prop), (∀ S' : St, Ret (some (vI 0)) S' → Rt none S') → (∀ S' : St, Ret (some (vI 1)) S' → Th E_B S') → (∀ S' : St, Ret (some (vI 2)) S' → Th E_S S') → Cn g yX3_giveNotice cX3_giveNotice 3 none 7 111 3 [vR 0 0, vI p0] S Rt Th) : CnH g yL_giveNotice cL_giveNotice 3 (some .int) hh_giveNotice 8 133 3 [vR 0 0, vI p0] S Ret (fun _ _ => False) := by
  refine enterH (L := [some (vR 0 0), some (vI p0), none]) (by decide +kernel) rfl (Nat.le_of_ble_eq_true rfl) rfl (fun K MM => ?_)
  have M := MM.mk
  refine r_aload_n M dL_giveNotice_0 rfl ?_
  refine r_iload_n M dL_giveNotice_1 rfl ?_
  refine rH_callV (As := [vI p0]) (rst := []) MM dL_giveNotice_2 ck_L_33 vk_X3_giveNotice rfl ⟨by omega, by omega, by omega⟩ ⟨by decide, by decide, rfl⟩ (by decide) (Nat.le_of_ble_eq_true rfl) (hC _ _ (fun S9 hr => ?_) (fun S9 hr => ?_) (fun S9 hr => ?_))
  · refine r_goto M dL_giveNotice_5 (tgt := 14) rfl ?_
    refine r_iconst M dL_giveNotice_14 ?_
    refine rH_iret MM dL_giveNotice_15 ?_
    exact hr
  · refine ⟨[], (0, 5, 8, 21), [(0, 5, 11, 15)], rfl, rfl, Or.inr (Or.inr ⟨rfl, rfl⟩), (fun z hz => nomatch hz), fun qa => ?_⟩
    refine r_xstore_2 M dL_giveNotice_8 (by decide) rfl ?_
    refine r_iconst M dL_giveNotice_9 ?_
    refine rH_iret MM dL_giveNotice_10 ?_
    exact hr
  · refine ⟨[(0, 5, 8, 21)], (0, 5, 11, 15), [], rfl, rfl, Or.inr (Or.inl ⟨rfl, rfl⟩), (fun z hz => ?_), fun qa => ?_⟩
    · simp only [List.mem_cons, List.not_mem_nil, or_false] at hz
      rcases hz with rfl
      · exact ⟨E_B, Or.inr (Or.inr ⟨rfl, rfl⟩), by decide +kernel⟩
    · refine r_xstore_2 M dL_giveNotice_11 (by decide) rfl ?_
      refine r_iconst M dL_giveNotice_12 ?_
      refine rH_iret MM dL_giveNotice_13 ?_
      exact hr
abbrev hh_size : HH := [(0, 8, 11, 15)]
theorem w_size (hC : ∀ (Rt : Option AV → St → Prop) (Th : String → St → Prop), (∀ (x : Int) (S' : St), (-2147483648 ≤ x ∧ x ≤ 2147483647) → Ret (some (vI 0)) (up3 S' 29 0 0 x) → Rt (some (vI x)) S') → (∀ S' : St, Ret (some (vI 1)) S' → Th E_S S') → Cn g yX3_size cX3_size 4 (some .int) 7 110 1 [vR 0 0] S Rt Th) : CnH g yL_size cL_size 3 (some .int) hh_size 8 133 1 [vR 0 0, vR 29 0] S Ret (fun _ _ => False) := by
  refine enterH (L := [some (vR 0 0), some (vR 29 0), none]) (by decide +kernel) rfl (Nat.le_of_ble_eq_true rfl) rfl (fun K MM => ?_)
  have M := MM.mk
  refine r_aload_n M dL_size_0 rfl ?_
  refine r_iconst M dL_size_1 ?_
  refine r_aload_n M dL_size_2 rfl ?_
  refine rH_callV (As := []) (rst := [vI 0, vR 29 0]) MM dL_size_3 ck_L_37 vk_X3_size rfl ⟨by omega, by omega, by omega⟩ ⟨by decide, by decide, rfl⟩ (by decide) (Nat.le_of_ble_eq_true rfl) (hC _ _ (fun x S9 hx hr => ?_) (fun S9 hr => ?_))
  · refine r_i2l M dL_size_6 (by exact hx) ?_
    refine r_last M dL_size_7 ?_
    refine r_goto M dL_size_8 (tgt := 14) rfl ?_
    refine r_iconst M dL_size_14 ?_
    refine rH_iret MM dL_size_15 ?_
    exact hr
  · refine ⟨[], (0, 8, 11, 15), [], rfl, rfl, Or.inr (Or.inl ⟨rfl, rfl⟩), (fun z hz => nomatch hz), fun qa => ?_⟩
    refine r_xstore_2 M dL_size_11 (by decide) rfl ?_
    refine r_iconst M dL_size_12 ?_
    refine rH_iret MM dL_size_13 ?_
    exact hr
abbrev hh_fail : HH := [(0, 10, 13, 21), (0, 10, 17, 13), (0, 10, 21, 15)]
theorem w_fail {p0 p1 : Int} (hC : ∀ (Rt : Option AV → St → Prop) (Th : String → St → Prop), (∀ (x : Int) (S' : St), (-2147483648 ≤ x ∧ x ≤ 2147483647) → Ret (some (vI 0)) (up3 S' 29 0 0 x) → Rt (some (vI x)) S') → (∀ S' : St, Ret (some (vI 1)) S' → Th E_B S') → (∀ S' : St, Ret (some (vI 2)) S' → Th E_A S') → (∀ S' : St, Ret (some (vI 3)) S' → Th E_S S') → Cn g yX3_fail cX3_fail 5 (some .int) 7 112 4 [vR 0 0, vI p0, vI p1] S Rt Th) : CnH g yL_fail cL_fail 5 (some .int) hh_fail 8 136 4 [vR 0 0, vI p0, vI p1, vR 29 0] S Ret (fun _ _ => False) := by
  refine enterH (L := [some (vR 0 0), some (vI p0), some (vI p1), some (vR 29 0), none]) (by decide +kernel) rfl (Nat.le_of_ble_eq_true rfl) rfl (fun K MM => ?_)
  have M := MM.mk
  refine r_aload_n M dL_fail_0 rfl ?_
  refine r_iconst M dL_fail_1 ?_
  refine r_aload_n M dL_fail_2 rfl ?_
  refine r_iload_n M dL_fail_3 rfl ?_
  refine r_iload_n M dL_fail_4 rfl ?_
  refine rH_callV (As := [vI p0, vI p1]) (rst := [vI 0, vR 29 0]) MM dL_fail_5 ck_L_41 vk_X3_fail rfl ⟨by omega, by omega, by omega⟩ ⟨by decide, by decide, rfl⟩ (by decide) (Nat.le_of_ble_eq_true rfl) (hC _ _ (fun x S9 hx hr => ?_) (fun S9 hr => ?_) (fun S9 hr => ?_) (fun S9 hr => ?_))
  · refine r_i2l M dL_fail_8 (by exact hx) ?_
    refine r_last M dL_fail_9 ?_
    refine r_goto M dL_fail_10 (tgt := 25) rfl ?_
    refine r_iconst M dL_fail_25 ?_
    refine rH_iret MM dL_fail_26 ?_
    exact hr
  · refine ⟨[], (0, 10, 13, 21), [(0, 10, 17, 13), (0, 10, 21, 15)], rfl, rfl, Or.inr (Or.inr ⟨rfl, rfl⟩), (fun z hz => nomatch hz), fun qa => ?_⟩
    refine r_xstore_4 M dL_fail_13 (by decide) rfl ?_
    refine r_iconst M dL_fail_15 ?_
    refine rH_iret MM dL_fail_16 ?_
    exact hr
  · refine ⟨[(0, 10, 13, 21)], (0, 10, 17, 13), [(0, 10, 21, 15)], rfl, rfl, Or.inl ⟨rfl, rfl⟩, (fun z hz => ?_), fun qa => ?_⟩
    · simp only [List.mem_cons, List.not_mem_nil, or_false] at hz
      rcases hz with rfl
      · exact ⟨E_B, Or.inr (Or.inr ⟨rfl, rfl⟩), by decide +kernel⟩
    · refine r_xstore_4 M dL_fail_17 (by decide) rfl ?_
      refine r_iconst M dL_fail_19 ?_
      refine rH_iret MM dL_fail_20 ?_
      exact hr
  · refine ⟨[(0, 10, 13, 21), (0, 10, 17, 13)], (0, 10, 21, 15), [], rfl, rfl, Or.inr (Or.inl ⟨rfl, rfl⟩), (fun z hz => ?_), fun qa => ?_⟩
    · simp only [List.mem_cons, List.not_mem_nil, or_false] at hz
      rcases hz with rfl | rfl
      · exact ⟨E_B, Or.inr (Or.inr ⟨rfl, rfl⟩), by decide +kernel⟩
      · exact ⟨E_A, Or.inl ⟨rfl, rfl⟩, by decide +kernel⟩
    · refine r_xstore_4 M dL_fail_21 (by decide) rfl ?_
      refine r_iconst M dL_fail_23 ?_
      refine rH_iret MM dL_fail_24 ?_
      exact hr
abbrev hh_bid : HH := [(0, 7, 10, 21), (0, 7, 14, 13), (0, 7, 18, 15)]
theorem w_bid {p0 p1 p2 : Int} (hC : ∀ (Rt : Option AV → St → Prop) (Th : String → St → Prop), (∀ S' : St, Ret (some (vI 0)) S' → Rt none S') → (∀ S' : St, Ret (some (vI 1)) S' → Th E_B S') → (∀ S' : St, Ret (some (vI 2)) S' → Th E_A S') → (∀ S' : St, Ret (some (vI 3)) S' → Th E_S S') → Cn g yX3_bid cX3_bid 5 none 7 112 5 [vR 0 0, vI p0, vI p1, vI p2] S Rt Th) : CnH g yL_bid cL_bid 5 (some .int) hh_bid 8 136 5 [vR 0 0, vI p0, vI p1, vI p2] S Ret (fun _ _ => False) := by
  refine enterH (L := [some (vR 0 0), some (vI p0), some (vI p1), some (vI p2), none]) (by decide +kernel) rfl (Nat.le_of_ble_eq_true rfl) rfl (fun K MM => ?_)
  have M := MM.mk
  refine r_aload_n M dL_bid_0 rfl ?_
  refine r_iload_n M dL_bid_1 rfl ?_
  refine r_iload_n M dL_bid_2 rfl ?_
  refine r_iload_n M dL_bid_3 rfl ?_
  refine rH_callV (As := [vI p0, vI p1, vI p2]) (rst := []) MM dL_bid_4 ck_L_44 vk_X3_bid rfl ⟨by omega, by omega, by omega⟩ ⟨by decide, by decide, rfl⟩ (by decide) (Nat.le_of_ble_eq_true rfl) (hC _ _ (fun S9 hr => ?_) (fun S9 hr => ?_) (fun S9 hr => ?_) (fun S9 hr => ?_))
  · refine r_goto M dL_bid_7 (tgt := 22) rfl ?_
    refine r_iconst M dL_bid_22 ?_
    refine rH_iret MM dL_bid_23 ?_
    exact hr
  · refine ⟨[], (0, 7, 10, 21), [(0, 7, 14, 13), (0, 7, 18, 15)], rfl, rfl, Or.inr (Or.inr ⟨rfl, rfl⟩), (fun z hz => nomatch hz), fun qa => ?_⟩
    refine r_xstore_4 M dL_bid_10 (by decide) rfl ?_
    refine r_iconst M dL_bid_12 ?_
    refine rH_iret MM dL_bid_13 ?_
    exact hr
  · refine ⟨[(0, 7, 10, 21)], (0, 7, 14, 13), [(0, 7, 18, 15)], rfl, rfl, Or.inl ⟨rfl, rfl⟩, (fun z hz => ?_), fun qa => ?_⟩
    · simp only [List.mem_cons, List.not_mem_nil, or_false] at hz
      rcases hz with rfl
      · exact ⟨E_B, Or.inr (Or.inr ⟨rfl, rfl⟩), by decide +kernel⟩
    · refine r_xstore_4 M dL_bid_14 (by decide) rfl ?_
      refine r_iconst M dL_bid_16 ?_
      refine rH_iret MM dL_bid_17 ?_
      exact hr
  · refine ⟨[(0, 7, 10, 21), (0, 7, 14, 13)], (0, 7, 18, 15), [], rfl, rfl, Or.inr (Or.inl ⟨rfl, rfl⟩), (fun z hz => ?_), fun qa => ?_⟩
    · simp only [List.mem_cons, List.not_mem_nil, or_false] at hz
      rcases hz with rfl | rfl
      · exact ⟨E_B, Or.inr (Or.inr ⟨rfl, rfl⟩), by decide +kernel⟩
      · exact ⟨E_A, Or.inl ⟨rfl, rfl⟩, by decide +kernel⟩
    · refine r_xstore_4 M dL_bid_18 (by decide) rfl ?_
      refine r_iconst M dL_bid_20 ?_
      refine rH_iret MM dL_bid_21 ?_
      exact hr
abbrev hh_close : HH := [(0, 8, 11, 15)]
theorem w_close (hC : ∀ (Rt : Option AV → St → Prop) (Th : String → St → Prop), (∀ (x : Int) (S' : St), (-2147483648 ≤ x ∧ x ≤ 2147483647) → Ret (some (vI 0)) (up3 S' 29 0 0 x) → Rt (some (vI x)) S') → (∀ S' : St, Ret (some (vI 1)) S' → Th E_S S') → Cn g yX3_close cX3_close 2 (some .int) 6 143 1 [vR 0 0] S Rt Th) : CnH g yL_close cL_close 3 (some .int) hh_close 7 164 1 [vR 0 0, vR 29 0] S Ret (fun _ _ => False) := by
  refine enterH (L := [some (vR 0 0), some (vR 29 0), none]) (by decide +kernel) rfl (Nat.le_of_ble_eq_true rfl) rfl (fun K MM => ?_)
  have M := MM.mk
  refine r_aload_n M dL_close_0 rfl ?_
  refine r_iconst M dL_close_1 ?_
  refine r_aload_n M dL_close_2 rfl ?_
  refine rH_callV (As := []) (rst := [vI 0, vR 29 0]) MM dL_close_3 ck_L_48 vk_X3_close rfl ⟨by omega, by omega, by omega⟩ ⟨by decide, by decide, rfl⟩ (by decide) (Nat.le_of_ble_eq_true rfl) (hC _ _ (fun x S9 hx hr => ?_) (fun S9 hr => ?_))
  · refine r_i2l M dL_close_6 (by exact hx) ?_
    refine r_last M dL_close_7 ?_
    refine r_goto M dL_close_8 (tgt := 14) rfl ?_
    refine r_iconst M dL_close_14 ?_
    refine rH_iret MM dL_close_15 ?_
    exact hr
  · refine ⟨[], (0, 8, 11, 15), [], rfl, rfl, Or.inr (Or.inl ⟨rfl, rfl⟩), (fun z hz => nomatch hz), fun qa => ?_⟩
    refine r_xstore_2 M dL_close_11 (by decide) rfl ?_
    refine r_iconst M dL_close_12 ?_
    refine rH_iret MM dL_close_13 ?_
    exact hr
abbrev hh_state : HH := [(0, 9, 12, 21)]
theorem w_state {p0 : Int} (hC : ∀ (Rt : Option AV → St → Prop) (Th : String → St → Prop), (∀ (x : Int) (S' : St), (-2147483648 ≤ x ∧ x ≤ 2147483647) → Ret (some (vI 0)) (up3 S' 29 0 0 x) → Rt (some (vI x)) S') → (∀ S' : St, Ret (some (vI 1)) S' → Th E_B S') → Cn g yX3_state cX3_state 2 (some .int) 7 111 1 [vR 0 0, vI p0] S Rt Th) : CnH g yL_state cL_state 4 (some .int) hh_state 8 132 1 [vR 0 0, vI p0, vR 29 0] S Ret (fun _ _ => False) := by
  refine enterH (L := [some (vR 0 0), some (vI p0), some (vR 29 0), none]) (by decide +kernel) rfl (Nat.le_of_ble_eq_true rfl) rfl (fun K MM => ?_)
  have M := MM.mk
  refine r_aload_n M dL_state_0 rfl ?_
  refine r_iconst M dL_state_1 ?_
  refine r_aload_n M dL_state_2 rfl ?_
  refine r_iload_n M dL_state_3 rfl ?_
  refine rH_callV (As := [vI p0]) (rst := [vI 0, vR 29 0]) MM dL_state_4 ck_L_51 vk_X3_state rfl ⟨by omega, by omega, by omega⟩ ⟨by decide, by decide, rfl⟩ (by decide) (Nat.le_of_ble_eq_true rfl) (hC _ _ (fun x S9 hx hr => ?_) (fun S9 hr => ?_))
  · refine r_i2l M dL_state_7 (by exact hx) ?_
    refine r_last M dL_state_8 ?_
    refine r_goto M dL_state_9 (tgt := 15) rfl ?_
    refine r_iconst M dL_state_15 ?_
    refine rH_iret MM dL_state_16 ?_
    exact hr
  · refine ⟨[], (0, 9, 12, 21), [], rfl, rfl, Or.inr (Or.inr ⟨rfl, rfl⟩), (fun z hz => nomatch hz), fun qa => ?_⟩
    refine r_xstore_3 M dL_state_12 (by decide) rfl ?_
    refine r_iconst M dL_state_13 ?_
    refine rH_iret MM dL_state_14 ?_
    exact hr
abbrev hh_margin : HH := [(0, 9, 12, 21)]
theorem w_margin {p0 : Int} (hC : ∀ (Rt : Option AV → St → Prop) (Th : String → St → Prop), (∀ (x : Int) (S' : St), (-2147483648 ≤ x ∧ x ≤ 2147483647) → Ret (some (vI 0)) (up3 S' 29 0 0 x) → Rt (some (vI x)) S') → (∀ S' : St, Ret (some (vI 1)) S' → Th E_B S') → Cn g yX3_margin cX3_margin 2 (some .int) 7 111 1 [vR 0 0, vI p0] S Rt Th) : CnH g yL_margin cL_margin 4 (some .int) hh_margin 8 132 1 [vR 0 0, vI p0, vR 29 0] S Ret (fun _ _ => False) := by
  refine enterH (L := [some (vR 0 0), some (vI p0), some (vR 29 0), none]) (by decide +kernel) rfl (Nat.le_of_ble_eq_true rfl) rfl (fun K MM => ?_)
  have M := MM.mk
  refine r_aload_n M dL_margin_0 rfl ?_
  refine r_iconst M dL_margin_1 ?_
  refine r_aload_n M dL_margin_2 rfl ?_
  refine r_iload_n M dL_margin_3 rfl ?_
  refine rH_callV (As := [vI p0]) (rst := [vI 0, vR 29 0]) MM dL_margin_4 ck_L_54 vk_X3_margin rfl ⟨by omega, by omega, by omega⟩ ⟨by decide, by decide, rfl⟩ (by decide) (Nat.le_of_ble_eq_true rfl) (hC _ _ (fun x S9 hx hr => ?_) (fun S9 hr => ?_))
  · refine r_i2l M dL_margin_7 (by exact hx) ?_
    refine r_last M dL_margin_8 ?_
    refine r_goto M dL_margin_9 (tgt := 15) rfl ?_
    refine r_iconst M dL_margin_15 ?_
    refine rH_iret MM dL_margin_16 ?_
    exact hr
  · refine ⟨[], (0, 9, 12, 21), [], rfl, rfl, Or.inr (Or.inr ⟨rfl, rfl⟩), (fun z hz => nomatch hz), fun qa => ?_⟩
    refine r_xstore_3 M dL_margin_12 (by decide) rfl ?_
    refine r_iconst M dL_margin_13 ?_
    refine rH_iret MM dL_margin_14 ?_
    exact hr
abbrev hh_share : HH := [(0, 9, 12, 21)]
theorem w_share {p0 : Int} (hC : ∀ (Rt : Option AV → St → Prop) (Th : String → St → Prop), (∀ (x : Int) (S' : St), (-2147483648 ≤ x ∧ x ≤ 2147483647) → Ret (some (vI 0)) (up3 S' 29 0 0 x) → Rt (some (vI x)) S') → (∀ S' : St, Ret (some (vI 1)) S' → Th E_B S') → Cn g yX3_share cX3_share 2 (some .int) 7 111 1 [vR 0 0, vI p0] S Rt Th) : CnH g yL_share cL_share 4 (some .int) hh_share 8 132 1 [vR 0 0, vI p0, vR 29 0] S Ret (fun _ _ => False) := by
  refine enterH (L := [some (vR 0 0), some (vI p0), some (vR 29 0), none]) (by decide +kernel) rfl (Nat.le_of_ble_eq_true rfl) rfl (fun K MM => ?_)
  have M := MM.mk
  refine r_aload_n M dL_share_0 rfl ?_
  refine r_iconst M dL_share_1 ?_
  refine r_aload_n M dL_share_2 rfl ?_
  refine r_iload_n M dL_share_3 rfl ?_
  refine rH_callV (As := [vI p0]) (rst := [vI 0, vR 29 0]) MM dL_share_4 ck_L_57 vk_X3_share rfl ⟨by omega, by omega, by omega⟩ ⟨by decide, by decide, rfl⟩ (by decide) (Nat.le_of_ble_eq_true rfl) (hC _ _ (fun x S9 hx hr => ?_) (fun S9 hr => ?_))
  · refine r_i2l M dL_share_7 (by exact hx) ?_
    refine r_last M dL_share_8 ?_
    refine r_goto M dL_share_9 (tgt := 15) rfl ?_
    refine r_iconst M dL_share_15 ?_
    refine rH_iret MM dL_share_16 ?_
    exact hr
  · refine ⟨[], (0, 9, 12, 21), [], rfl, rfl, Or.inr (Or.inr ⟨rfl, rfl⟩), (fun z hz => nomatch hz), fun qa => ?_⟩
    refine r_xstore_3 M dL_share_12 (by decide) rfl ?_
    refine r_iconst M dL_share_13 ?_
    refine rH_iret MM dL_share_14 ?_
    exact hr
abbrev hh_gain : HH := [(0, 9, 12, 21)]
theorem w_gain {p0 : Int} (hC : ∀ (Rt : Option AV → St → Prop) (Th : String → St → Prop), (∀ (x : Int) (S' : St), (-2147483648 ≤ x ∧ x ≤ 2147483647) → Ret (some (vI 0)) (up3 S' 29 0 0 x) → Rt (some (vI x)) S') → (∀ S' : St, Ret (some (vI 1)) S' → Th E_B S') → Cn g yX3_gain cX3_gain 2 (some .int) 7 111 1 [vR 0 0, vI p0] S Rt Th) : CnH g yL_gain cL_gain 4 (some .int) hh_gain 8 132 1 [vR 0 0, vI p0, vR 29 0] S Ret (fun _ _ => False) := by
  refine enterH (L := [some (vR 0 0), some (vI p0), some (vR 29 0), none]) (by decide +kernel) rfl (Nat.le_of_ble_eq_true rfl) rfl (fun K MM => ?_)
  have M := MM.mk
  refine r_aload_n M dL_gain_0 rfl ?_
  refine r_iconst M dL_gain_1 ?_
  refine r_aload_n M dL_gain_2 rfl ?_
  refine r_iload_n M dL_gain_3 rfl ?_
  refine rH_callV (As := [vI p0]) (rst := [vI 0, vR 29 0]) MM dL_gain_4 ck_L_60 vk_X3_gain rfl ⟨by omega, by omega, by omega⟩ ⟨by decide, by decide, rfl⟩ (by decide) (Nat.le_of_ble_eq_true rfl) (hC _ _ (fun x S9 hx hr => ?_) (fun S9 hr => ?_))
  · refine r_i2l M dL_gain_7 (by exact hx) ?_
    refine r_last M dL_gain_8 ?_
    refine r_goto M dL_gain_9 (tgt := 15) rfl ?_
    refine r_iconst M dL_gain_15 ?_
    refine rH_iret MM dL_gain_16 ?_
    exact hr
  · refine ⟨[], (0, 9, 12, 21), [], rfl, rfl, Or.inr (Or.inr ⟨rfl, rfl⟩), (fun z hz => nomatch hz), fun qa => ?_⟩
    refine r_xstore_3 M dL_gain_12 (by decide) rfl ?_
    refine r_iconst M dL_gain_13 ?_
    refine rH_iret MM dL_gain_14 ?_
    exact hr
abbrev hh_isJunior : HH := [(0, 16, 19, 21)]
theorem w_isJunior {p0 : Int} (hC : ∀ (Rt : Option AV → St → Prop) (Th : String → St → Prop), (∀ (x : Int) (S' : St), (x = 0 ∨ x = 1) → Ret (some (vI 0)) (up3 S' 29 0 0 x) → Rt (some (vI x)) S') → (∀ S' : St, Ret (some (vI 1)) S' → Th E_B S') → Cn g yX3_isJunior cX3_isJunior 2 (some .boolean) 7 111 1 [vR 0 0, vI p0] S Rt Th) : CnH g yL_isJunior cL_isJunior 4 (some .int) hh_isJunior 8 132 1 [vR 0 0, vI p0, vR 29 0] S Ret (fun _ _ => False) := by
  refine enterH (L := [some (vR 0 0), some (vI p0), some (vR 29 0), none]) (by decide +kernel) rfl (Nat.le_of_ble_eq_true rfl) rfl (fun K MM => ?_)
  have M := MM.mk
  refine r_aload_n M dL_isJunior_0 rfl ?_
  refine r_iconst M dL_isJunior_1 ?_
  refine r_aload_n M dL_isJunior_2 rfl ?_
  refine r_iload_n M dL_isJunior_3 rfl ?_
  refine rH_callV (As := [vI p0]) (rst := [vI 0, vR 29 0]) MM dL_isJunior_4 ck_L_63 vk_X3_isJunior rfl ⟨by omega, by omega, by omega⟩ ⟨by decide, by decide, rfl⟩ (by decide) (Nat.le_of_ble_eq_true rfl) (hC _ _ (fun x S9 hx hr => ?_) (fun S9 hr => ?_))
  · refine r_if_eq M dL_isJunior_7 (tgt := 14) rfl (by omega) (fun b7 => ?_) (fun b7 => ?_)
    · refine r_lconst0 M dL_isJunior_14 ?_
      refine r_last M dL_isJunior_15 ?_
      refine r_goto M dL_isJunior_16 (tgt := 22) rfl ?_
      refine r_iconst M dL_isJunior_22 ?_
      refine rH_iret MM dL_isJunior_23 ?_
      first | (rw [b7] at hr; exact hr) | (rw [show x = 1 by omega] at hr; exact hr)
    refine r_lconst1 M dL_isJunior_10 ?_
    refine r_goto M dL_isJunior_11 (tgt := 15) rfl ?_
    refine r_last M dL_isJunior_15 ?_
    refine r_goto M dL_isJunior_16 (tgt := 22) rfl ?_
    refine r_iconst M dL_isJunior_22 ?_
    refine rH_iret MM dL_isJunior_23 ?_
    first | (rw [b7] at hr; exact hr) | (rw [show x = 1 by omega] at hr; exact hr)
  · refine ⟨[], (0, 16, 19, 21), [], rfl, rfl, Or.inr (Or.inr ⟨rfl, rfl⟩), (fun z hz => nomatch hz), fun qa => ?_⟩
    refine r_xstore_3 M dL_isJunior_19 (by decide) rfl ?_
    refine r_iconst M dL_isJunior_20 ?_
    refine rH_iret MM dL_isJunior_21 ?_
    exact hr
abbrev hh_assessed : HH := [(0, 9, 12, 21)]
theorem w_assessed {p0 : Int} (hC : ∀ (Rt : Option AV → St → Prop) (Th : String → St → Prop), (∀ (x : Int) (S' : St), (-2147483648 ≤ x ∧ x ≤ 2147483647) → Ret (some (vI 0)) (up3 S' 29 0 0 x) → Rt (some (vI x)) S') → (∀ S' : St, Ret (some (vI 1)) S' → Th E_B S') → Cn g yX3_assessed cX3_assessed 2 (some .int) 7 111 1 [vR 0 0, vI p0] S Rt Th) : CnH g yL_assessed cL_assessed 4 (some .int) hh_assessed 8 132 1 [vR 0 0, vI p0, vR 29 0] S Ret (fun _ _ => False) := by
  refine enterH (L := [some (vR 0 0), some (vI p0), some (vR 29 0), none]) (by decide +kernel) rfl (Nat.le_of_ble_eq_true rfl) rfl (fun K MM => ?_)
  have M := MM.mk
  refine r_aload_n M dL_assessed_0 rfl ?_
  refine r_iconst M dL_assessed_1 ?_
  refine r_aload_n M dL_assessed_2 rfl ?_
  refine r_iload_n M dL_assessed_3 rfl ?_
  refine rH_callV (As := [vI p0]) (rst := [vI 0, vR 29 0]) MM dL_assessed_4 ck_L_67 vk_X3_assessed rfl ⟨by omega, by omega, by omega⟩ ⟨by decide, by decide, rfl⟩ (by decide) (Nat.le_of_ble_eq_true rfl) (hC _ _ (fun x S9 hx hr => ?_) (fun S9 hr => ?_))
  · refine r_i2l M dL_assessed_7 (by exact hx) ?_
    refine r_last M dL_assessed_8 ?_
    refine r_goto M dL_assessed_9 (tgt := 15) rfl ?_
    refine r_iconst M dL_assessed_15 ?_
    refine rH_iret MM dL_assessed_16 ?_
    exact hr
  · refine ⟨[], (0, 9, 12, 21), [], rfl, rfl, Or.inr (Or.inr ⟨rfl, rfl⟩), (fun z hz => nomatch hz), fun qa => ?_⟩
    refine r_xstore_3 M dL_assessed_12 (by decide) rfl ?_
    refine r_iconst M dL_assessed_13 ?_
    refine rH_iret MM dL_assessed_14 ?_
    exact hr
abbrev hh_clientLots : HH := [(0, 9, 12, 21)]
theorem w_clientLots {p0 : Int} (hC : ∀ (Rt : Option AV → St → Prop) (Th : String → St → Prop), (∀ (x : Int) (S' : St), (-2147483648 ≤ x ∧ x ≤ 2147483647) → Ret (some (vI 0)) (up3 S' 29 0 0 x) → Rt (some (vI x)) S') → (∀ S' : St, Ret (some (vI 1)) S' → Th E_B S') → Cn g yX3_clientLots cX3_clientLots 2 (some .int) 7 111 1 [vR 0 0, vI p0] S Rt Th) : CnH g yL_clientLots cL_clientLots 4 (some .int) hh_clientLots 8 132 1 [vR 0 0, vI p0, vR 29 0] S Ret (fun _ _ => False) := by
  refine enterH (L := [some (vR 0 0), some (vI p0), some (vR 29 0), none]) (by decide +kernel) rfl (Nat.le_of_ble_eq_true rfl) rfl (fun K MM => ?_)
  have M := MM.mk
  refine r_aload_n M dL_clientLots_0 rfl ?_
  refine r_iconst M dL_clientLots_1 ?_
  refine r_aload_n M dL_clientLots_2 rfl ?_
  refine r_iload_n M dL_clientLots_3 rfl ?_
  refine rH_callV (As := [vI p0]) (rst := [vI 0, vR 29 0]) MM dL_clientLots_4 ck_L_70 vk_X3_clientLots rfl ⟨by omega, by omega, by omega⟩ ⟨by decide, by decide, rfl⟩ (by decide) (Nat.le_of_ble_eq_true rfl) (hC _ _ (fun x S9 hx hr => ?_) (fun S9 hr => ?_))
  · refine r_i2l M dL_clientLots_7 (by exact hx) ?_
    refine r_last M dL_clientLots_8 ?_
    refine r_goto M dL_clientLots_9 (tgt := 15) rfl ?_
    refine r_iconst M dL_clientLots_15 ?_
    refine rH_iret MM dL_clientLots_16 ?_
    exact hr
  · refine ⟨[], (0, 9, 12, 21), [], rfl, rfl, Or.inr (Or.inr ⟨rfl, rfl⟩), (fun z hz => nomatch hz), fun qa => ?_⟩
    refine r_xstore_3 M dL_clientLots_12 (by decide) rfl ?_
    refine r_iconst M dL_clientLots_13 ?_
    refine rH_iret MM dL_clientLots_14 ?_
    exact hr
abbrev hh_won : HH := [(0, 9, 12, 21)]
theorem w_won {p0 : Int} (hC : ∀ (Rt : Option AV → St → Prop) (Th : String → St → Prop), (∀ (x : Int) (S' : St), (-2147483648 ≤ x ∧ x ≤ 2147483647) → Ret (some (vI 0)) (up3 S' 29 0 0 x) → Rt (some (vI x)) S') → (∀ S' : St, Ret (some (vI 1)) S' → Th E_B S') → Cn g yX3_won cX3_won 2 (some .int) 7 111 1 [vR 0 0, vI p0] S Rt Th) : CnH g yL_won cL_won 4 (some .int) hh_won 8 132 1 [vR 0 0, vI p0, vR 29 0] S Ret (fun _ _ => False) := by
  refine enterH (L := [some (vR 0 0), some (vI p0), some (vR 29 0), none]) (by decide +kernel) rfl (Nat.le_of_ble_eq_true rfl) rfl (fun K MM => ?_)
  have M := MM.mk
  refine r_aload_n M dL_won_0 rfl ?_
  refine r_iconst M dL_won_1 ?_
  refine r_aload_n M dL_won_2 rfl ?_
  refine r_iload_n M dL_won_3 rfl ?_
  refine rH_callV (As := [vI p0]) (rst := [vI 0, vR 29 0]) MM dL_won_4 ck_L_73 vk_X3_won rfl ⟨by omega, by omega, by omega⟩ ⟨by decide, by decide, rfl⟩ (by decide) (Nat.le_of_ble_eq_true rfl) (hC _ _ (fun x S9 hx hr => ?_) (fun S9 hr => ?_))
  · refine r_i2l M dL_won_7 (by exact hx) ?_
    refine r_last M dL_won_8 ?_
    refine r_goto M dL_won_9 (tgt := 15) rfl ?_
    refine r_iconst M dL_won_15 ?_
    refine rH_iret MM dL_won_16 ?_
    exact hr
  · refine ⟨[], (0, 9, 12, 21), [], rfl, rfl, Or.inr (Or.inr ⟨rfl, rfl⟩), (fun z hz => nomatch hz), fun qa => ?_⟩
    refine r_xstore_3 M dL_won_12 (by decide) rfl ?_
    refine r_iconst M dL_won_13 ?_
    refine rH_iret MM dL_won_14 ?_
    exact hr
end WR
