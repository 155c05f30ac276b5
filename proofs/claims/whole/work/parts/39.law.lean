/-! ===== the law: its calls, its loop ===== -/
theorem kh_80 : CkH RL 80 yL_addMember cL_addMember 6 (some .int) hh_addMember 5 := ⟨wt_at 205 (by decide +kernel) rfl, wt_at 206 (by decide +kernel) rfl, wt_at 47 (by decide +kernel) rfl, wt_at 207 (by decide +kernel) rfl, ⟨by decide +kernel, by decide +kernel, by decide +kernel⟩, rfl⟩
theorem kh_89 : CkH RL 89 yL_addClient cL_addClient 5 (some .int) hh_addClient 4 := ⟨wt_at 306 (by decide +kernel) rfl, wt_at 307 (by decide +kernel) rfl, wt_at 47 (by decide +kernel) rfl, wt_at 308 (by decide +kernel) rfl, ⟨by decide +kernel, by decide +kernel, by decide +kernel⟩, rfl⟩
theorem kh_93 : CkH RL 93 yL_setGain cL_setGain 5 (some .int) hh_setGain 4 := ⟨wt_at 352 (by decide +kernel) rfl, wt_at 353 (by decide +kernel) rfl, wt_at 47 (by decide +kernel) rfl, wt_at 354 (by decide +kernel) rfl, ⟨by decide +kernel, by decide +kernel, by decide +kernel⟩, rfl⟩
theorem kh_96 : CkH RL 96 yL_setTested cL_setTested 5 (some .int) hh_setTested 4 := ⟨wt_at 359 (by decide +kernel) rfl, wt_at 360 (by decide +kernel) rfl, wt_at 47 (by decide +kernel) rfl, wt_at 361 (by decide +kernel) rfl, ⟨by decide +kernel, by decide +kernel, by decide +kernel⟩, rfl⟩
theorem kh_99 : CkH RL 99 yL_setCapital cL_setCapital 4 (some .int) hh_setCapital 3 := ⟨wt_at 366 (by decide +kernel) rfl, wt_at 367 (by decide +kernel) rfl, wt_at 47 (by decide +kernel) rfl, wt_at 368 (by decide +kernel) rfl, ⟨by decide +kernel, by decide +kernel, by decide +kernel⟩, rfl⟩
theorem kh_103 : CkH RL 103 yL_giveNotice cL_giveNotice 3 (some .int) hh_giveNotice 2 := ⟨wt_at 373 (by decide +kernel) rfl, wt_at 374 (by decide +kernel) rfl, wt_at 47 (by decide +kernel) rfl, wt_at 375 (by decide +kernel) rfl, ⟨by decide +kernel, by decide +kernel, by decide +kernel⟩, rfl⟩
theorem kh_107 : CkH RL 107 yL_size cL_size 3 (some .int) hh_size 2 := ⟨wt_at 386 (by decide +kernel) rfl, wt_at 387 (by decide +kernel) rfl, wt_at 47 (by decide +kernel) rfl, wt_at 388 (by decide +kernel) rfl, ⟨by decide +kernel, by decide +kernel, by decide +kernel⟩, rfl⟩
theorem kh_111 : CkH RL 111 yL_fail cL_fail 5 (some .int) hh_fail 4 := ⟨wt_at 434 (by decide +kernel) rfl, wt_at 435 (by decide +kernel) rfl, wt_at 47 (by decide +kernel) rfl, wt_at 436 (by decide +kernel) rfl, ⟨by decide +kernel, by decide +kernel, by decide +kernel⟩, rfl⟩
theorem kh_114 : CkH RL 114 yL_bid cL_bid 5 (some .int) hh_bid 4 := ⟨wt_at 458 (by decide +kernel) rfl, wt_at 459 (by decide +kernel) rfl, wt_at 47 (by decide +kernel) rfl, wt_at 460 (by decide +kernel) rfl, ⟨by decide +kernel, by decide +kernel, by decide +kernel⟩, rfl⟩
theorem kh_118 : CkH RL 118 yL_close cL_close 3 (some .int) hh_close 2 := ⟨wt_at 479 (by decide +kernel) rfl, wt_at 480 (by decide +kernel) rfl, wt_at 47 (by decide +kernel) rfl, wt_at 481 (by decide +kernel) rfl, ⟨by decide +kernel, by decide +kernel, by decide +kernel⟩, rfl⟩
theorem kh_125 : CkH RL 125 yL_state cL_state 4 (some .int) hh_state 3 := ⟨wt_at 533 (by decide +kernel) rfl, wt_at 534 (by decide +kernel) rfl, wt_at 47 (by decide +kernel) rfl, wt_at 535 (by decide +kernel) rfl, ⟨by decide +kernel, by decide +kernel, by decide +kernel⟩, rfl⟩
theorem kh_128 : CkH RL 128 yL_margin cL_margin 4 (some .int) hh_margin 3 := ⟨wt_at 540 (by decide +kernel) rfl, wt_at 541 (by decide +kernel) rfl, wt_at 47 (by decide +kernel) rfl, wt_at 542 (by decide +kernel) rfl, ⟨by decide +kernel, by decide +kernel, by decide +kernel⟩, rfl⟩
theorem kh_131 : CkH RL 131 yL_share cL_share 4 (some .int) hh_share 3 := ⟨wt_at 547 (by decide +kernel) rfl, wt_at 548 (by decide +kernel) rfl, wt_at 47 (by decide +kernel) rfl, wt_at 549 (by decide +kernel) rfl, ⟨by decide +kernel, by decide +kernel, by decide +kernel⟩, rfl⟩
theorem kh_134 : CkH RL 134 yL_gain cL_gain 4 (some .int) hh_gain 3 := ⟨wt_at 554 (by decide +kernel) rfl, wt_at 555 (by decide +kernel) rfl, wt_at 47 (by decide +kernel) rfl, wt_at 556 (by decide +kernel) rfl, ⟨by decide +kernel, by decide +kernel, by decide +kernel⟩, rfl⟩
theorem kh_137 : CkH RL 137 yL_isJunior cL_isJunior 4 (some .int) hh_isJunior 3 := ⟨wt_at 561 (by decide +kernel) rfl, wt_at 562 (by decide +kernel) rfl, wt_at 47 (by decide +kernel) rfl, wt_at 563 (by decide +kernel) rfl, ⟨by decide +kernel, by decide +kernel, by decide +kernel⟩, rfl⟩
theorem kh_140 : CkH RL 140 yL_assessed cL_assessed 4 (some .int) hh_assessed 3 := ⟨wt_at 568 (by decide +kernel) rfl, wt_at 569 (by decide +kernel) rfl, wt_at 47 (by decide +kernel) rfl, wt_at 570 (by decide +kernel) rfl, ⟨by decide +kernel, by decide +kernel, by decide +kernel⟩, rfl⟩
theorem kh_143 : CkH RL 143 yL_clientLots cL_clientLots 4 (some .int) hh_clientLots 3 := ⟨wt_at 575 (by decide +kernel) rfl, wt_at 576 (by decide +kernel) rfl, wt_at 47 (by decide +kernel) rfl, wt_at 577 (by decide +kernel) rfl, ⟨by decide +kernel, by decide +kernel, by decide +kernel⟩, rfl⟩
theorem kh_146 : CkH RL 146 yL_won cL_won 4 (some .int) hh_won 3 := ⟨wt_at 582 (by decide +kernel) rfl, wt_at 583 (by decide +kernel) rfl, wt_at 47 (by decide +kernel) rfl, wt_at 584 (by decide +kernel) rfl, ⟨by decide +kernel, by decide +kernel, by decide +kernel⟩, rfl⟩
def Op0 (g : Gl) (Inv : Nat → St → Prop) : Prop := ∀ (t : Nat) (S : St) (p0 p1 p2 : Int), t < 512 → (-2147483648 ≤ p0 ∧ p0 ≤ 2147483647) → (-2147483648 ≤ p1 ∧ p1 ≤ 2147483647) → (-2147483648 ≤ p2 ∧ p2 ≤ 2147483647) → Inv t S → ∀ Rt : Option AV → St → Prop, (∀ (k : Int) (S1 : St), (-2147483648 ≤ k ∧ k ≤ 2147483647) → (∀ Rt2 : Option AV → St → Prop, (∀ (y : Int) (S2 : St), (-2147483648 ≤ y ∧ y ≤ 2147483647) → S2 11 0 25 = k → (k = 0 → S2 29 0 0 = y) → Inv (t + 1) S2 → Rt2 (some (vI y)) S2) → Cn g yX4_addMember cX4_addMember 4 (some .int) 1 22 0 [vR 11 0, vI p0, vI p1, vI p2] S1 Rt2 (fun _ _ => False)) → Rt (some (vI k)) S1) → CnH g yL_addMember cL_addMember 6 (some .int) hh_addMember 8 135 4 [vR 0 0, vI p0, vI p1, vI p2, vR 29 0] S Rt (fun _ _ => False)
def Op1 (g : Gl) (Inv : Nat → St → Prop) : Prop := ∀ (t : Nat) (S : St) (p0 p1 : Int), t < 512 → (-2147483648 ≤ p0 ∧ p0 ≤ 2147483647) → (-2147483648 ≤ p1 ∧ p1 ≤ 2147483647) → Inv t S → ∀ Rt : Option AV → St → Prop, (∀ (k : Int) (S1 : St), (-2147483648 ≤ k ∧ k ≤ 2147483647) → (∀ Rt2 : Option AV → St → Prop, (∀ (y : Int) (S2 : St), (-2147483648 ≤ y ∧ y ≤ 2147483647) → S2 11 0 25 = k → (k = 0 → S2 29 0 0 = y) → Inv (t + 1) S2 → Rt2 (some (vI y)) S2) → Cn g yX4_addClient cX4_addClient 3 (some .int) 2 44 0 [vR 11 0, vI p0, vI p1] S1 Rt2 (fun _ _ => False)) → Rt (some (vI k)) S1) → CnH g yL_addClient cL_addClient 5 (some .int) hh_addClient 8 135 4 [vR 0 0, vI p0, vI p1, vR 29 0] S Rt (fun _ _ => False)
def Op2 (g : Gl) (Inv : Nat → St → Prop) : Prop := ∀ (t : Nat) (S : St) (p0 p1 : Int), t < 512 → (-2147483648 ≤ p0 ∧ p0 ≤ 2147483647) → (-2147483648 ≤ p1 ∧ p1 ≤ 2147483647) → Inv t S → ∀ Rt : Option AV → St → Prop, (∀ (k : Int) (S1 : St), (-2147483648 ≤ k ∧ k ≤ 2147483647) → (∀ Rt2 : Option AV → St → Prop, (∀ (y : Int) (S2 : St), (-2147483648 ≤ y ∧ y ≤ 2147483647) → S2 11 0 25 = k → (k = 0 → S2 29 0 0 = y) → Inv (t + 1) S2 → Rt2 (some (vI y)) S2) → Cn g yX4_setGain cX4_setGain 4 (some .int) 2 43 0 [vR 11 0, vI p0, vI p1] S1 Rt2 (fun _ _ => False)) → Rt (some (vI k)) S1) → CnH g yL_setGain cL_setGain 5 (some .int) hh_setGain 8 136 3 [vR 0 0, vI p0, vI p1, vR 29 0] S Rt (fun _ _ => False)
def Op3 (g : Gl) (Inv : Nat → St → Prop) : Prop := ∀ (t : Nat) (S : St) (p0 p1 : Int), t < 512 → (-2147483648 ≤ p0 ∧ p0 ≤ 2147483647) → (-2147483648 ≤ p1 ∧ p1 ≤ 2147483647) → Inv t S → ∀ Rt : Option AV → St → Prop, (∀ (k : Int) (S1 : St), (-2147483648 ≤ k ∧ k ≤ 2147483647) → (∀ Rt2 : Option AV → St → Prop, (∀ (y : Int) (S2 : St), (-2147483648 ≤ y ∧ y ≤ 2147483647) → S2 11 0 25 = k → (k = 0 → S2 29 0 0 = y) → Inv (t + 1) S2 → Rt2 (some (vI y)) S2) → Cn g yX4_setTested cX4_setTested 4 (some .int) 2 43 0 [vR 11 0, vI p0, vI p1] S1 Rt2 (fun _ _ => False)) → Rt (some (vI k)) S1) → CnH g yL_setTested cL_setTested 5 (some .int) hh_setTested 8 136 3 [vR 0 0, vI p0, vI p1, vR 29 0] S Rt (fun _ _ => False)
def Op4 (g : Gl) (Inv : Nat → St → Prop) : Prop := ∀ (t : Nat) (S : St) (p0 : Int), t < 512 → (-2147483648 ≤ p0 ∧ p0 ≤ 2147483647) → Inv t S → ∀ Rt : Option AV → St → Prop, (∀ (k : Int) (S1 : St), (-2147483648 ≤ k ∧ k ≤ 2147483647) → (∀ Rt2 : Option AV → St → Prop, (∀ (y : Int) (S2 : St), (-2147483648 ≤ y ∧ y ≤ 2147483647) → S2 11 0 25 = k → (k = 0 → S2 29 0 0 = y) → Inv (t + 1) S2 → Rt2 (some (vI y)) S2) → Cn g yX4_setCapital cX4_setCapital 3 (some .int) 1 22 0 [vR 11 0, vI p0] S1 Rt2 (fun _ _ => False)) → Rt (some (vI k)) S1) → CnH g yL_setCapital cL_setCapital 4 (some .int) hh_setCapital 8 134 1 [vR 0 0, vI p0, vR 29 0] S Rt (fun _ _ => False)
def Op5 (g : Gl) (Inv : Nat → St → Prop) : Prop := ∀ (t : Nat) (S : St) (p0 : Int), t < 512 → (-2147483648 ≤ p0 ∧ p0 ≤ 2147483647) → Inv t S → ∀ Rt : Option AV → St → Prop, (∀ (k : Int) (S1 : St), (-2147483648 ≤ k ∧ k ≤ 2147483647) → (∀ Rt2 : Option AV → St → Prop, (∀ S2 : St, S2 11 0 25 = k → Inv (t + 1) S2 → Rt2 none S2) → Cn g yX4_giveNotice cX4_giveNotice 2 none 2 43 0 [vR 11 0, vI p0] S1 Rt2 (fun _ _ => False)) → Rt (some (vI k)) S1) → CnH g yL_giveNotice cL_giveNotice 3 (some .int) hh_giveNotice 8 133 3 [vR 0 0, vI p0] S Rt (fun _ _ => False)
def Op6 (g : Gl) (Inv : Nat → St → Prop) : Prop := ∀ (t : Nat) (S : St), t < 512 → Inv t S → ∀ Rt : Option AV → St → Prop, (∀ (k : Int) (S1 : St), (-2147483648 ≤ k ∧ k ≤ 2147483647) → (∀ Rt2 : Option AV → St → Prop, (∀ (y : Int) (S2 : St), (-2147483648 ≤ y ∧ y ≤ 2147483647) → S2 11 0 25 = k → (k = 0 → S2 29 0 0 = y) → Inv (t + 1) S2 → Rt2 (some (vI y)) S2) → Cn g yX4_size cX4_size 6 (some .int) 1 33 0 [vR 11 0] S1 Rt2 (fun _ _ => False)) → Rt (some (vI k)) S1) → CnH g yL_size cL_size 3 (some .int) hh_size 8 133 1 [vR 0 0, vR 29 0] S Rt (fun _ _ => False)
def Op7 (g : Gl) (Inv : Nat → St → Prop) : Prop := ∀ (t : Nat) (S : St) (p0 p1 : Int), t < 512 → (-2147483648 ≤ p0 ∧ p0 ≤ 2147483647) → (-2147483648 ≤ p1 ∧ p1 ≤ 2147483647) → Inv t S → ∀ Rt : Option AV → St → Prop, (∀ (k : Int) (S1 : St), (-2147483648 ≤ k ∧ k ≤ 2147483647) → (∀ Rt2 : Option AV → St → Prop, (∀ (y : Int) (S2 : St), (-2147483648 ≤ y ∧ y ≤ 2147483647) → S2 11 0 25 = k → (k = 0 → S2 29 0 0 = y) → Inv (t + 1) S2 → Rt2 (some (vI y)) S2) → Cn g yX4_fail cX4_fail 5 (some .int) 3 66 0 [vR 11 0, vI p0, vI p1] S1 Rt2 (fun _ _ => False)) → Rt (some (vI k)) S1) → CnH g yL_fail cL_fail 5 (some .int) hh_fail 8 136 4 [vR 0 0, vI p0, vI p1, vR 29 0] S Rt (fun _ _ => False)
def Op8 (g : Gl) (Inv : Nat → St → Prop) : Prop := ∀ (t : Nat) (S : St) (p0 p1 p2 : Int), t < 512 → (-2147483648 ≤ p0 ∧ p0 ≤ 2147483647) → (-2147483648 ≤ p1 ∧ p1 ≤ 2147483647) → (-2147483648 ≤ p2 ∧ p2 ≤ 2147483647) → Inv t S → ∀ Rt : Option AV → St → Prop, (∀ (k : Int) (S1 : St), (-2147483648 ≤ k ∧ k ≤ 2147483647) → (∀ Rt2 : Option AV → St → Prop, (∀ S2 : St, S2 11 0 25 = k → Inv (t + 1) S2 → Rt2 none S2) → Cn g yX4_bid cX4_bid 4 none 2 43 0 [vR 11 0, vI p0, vI p1, vI p2] S1 Rt2 (fun _ _ => False)) → Rt (some (vI k)) S1) → CnH g yL_bid cL_bid 5 (some .int) hh_bid 8 136 5 [vR 0 0, vI p0, vI p1, vI p2] S Rt (fun _ _ => False)
def Op9 (g : Gl) (Inv : Nat → St → Prop) : Prop := ∀ (t : Nat) (S : St), t < 512 → Inv t S → ∀ Rt : Option AV → St → Prop, (∀ (k : Int) (S1 : St), (-2147483648 ≤ k ∧ k ≤ 2147483647) → (∀ Rt2 : Option AV → St → Prop, (∀ (y : Int) (S2 : St), (-2147483648 ≤ y ∧ y ≤ 2147483647) → S2 11 0 25 = k → (k = 0 → S2 29 0 0 = y) → Inv (t + 1) S2 → Rt2 (some (vI y)) S2) → Cn g yX4_close cX4_close 5 (some .int) 2 57 0 [vR 11 0] S1 Rt2 (fun _ _ => False)) → Rt (some (vI k)) S1) → CnH g yL_close cL_close 3 (some .int) hh_close 7 164 1 [vR 0 0, vR 29 0] S Rt (fun _ _ => False)
def Op10 (g : Gl) (Inv : Nat → St → Prop) : Prop := ∀ (t : Nat) (S : St), t < 512 → Inv t S → ∀ Rt : Option AV → St → Prop, (∀ (k : Int) (S1 : St), (-2147483648 ≤ k ∧ k ≤ 2147483647) → (∀ Rt2 : Option AV → St → Prop, (∀ S2 : St, Inv (t + 1) S2 → Rt2 (some (vI k)) S2) → Cn g yX4_members cX4_members 1 (some .int) 0 0 0 [vR 11 0] S1 Rt2 (fun _ _ => False)) → Rt (some (vI k)) S1) → Cn g yX3_members cX3_members 1 (some .int) 0 0 0 [vR 0 0] S Rt (fun _ _ => False)
def Op11 (g : Gl) (Inv : Nat → St → Prop) : Prop := ∀ (t : Nat) (S : St) (p0 : Int), t < 512 → (-2147483648 ≤ p0 ∧ p0 ≤ 2147483647) → Inv t S → ∀ Rt : Option AV → St → Prop, (∀ (k : Int) (S1 : St), (-2147483648 ≤ k ∧ k ≤ 2147483647) → (∀ Rt2 : Option AV → St → Prop, (∀ (y : Int) (S2 : St), (-2147483648 ≤ y ∧ y ≤ 2147483647) → S2 11 0 25 = k → (k = 0 → S2 29 0 0 = y) → Inv (t + 1) S2 → Rt2 (some (vI y)) S2) → Cn g yX4_state cX4_state 2 (some .int) 2 43 0 [vR 11 0, vI p0] S1 Rt2 (fun _ _ => False)) → Rt (some (vI k)) S1) → CnH g yL_state cL_state 4 (some .int) hh_state 8 132 1 [vR 0 0, vI p0, vR 29 0] S Rt (fun _ _ => False)
def Op12 (g : Gl) (Inv : Nat → St → Prop) : Prop := ∀ (t : Nat) (S : St) (p0 : Int), t < 512 → (-2147483648 ≤ p0 ∧ p0 ≤ 2147483647) → Inv t S → ∀ Rt : Option AV → St → Prop, (∀ (k : Int) (S1 : St), (-2147483648 ≤ k ∧ k ≤ 2147483647) → (∀ Rt2 : Option AV → St → Prop, (∀ (y : Int) (S2 : St), (-2147483648 ≤ y ∧ y ≤ 2147483647) → S2 11 0 25 = k → (k = 0 → S2 29 0 0 = y) → Inv (t + 1) S2 → Rt2 (some (vI y)) S2) → Cn g yX4_margin cX4_margin 2 (some .int) 2 43 0 [vR 11 0, vI p0] S1 Rt2 (fun _ _ => False)) → Rt (some (vI k)) S1) → CnH g yL_margin cL_margin 4 (some .int) hh_margin 8 132 1 [vR 0 0, vI p0, vR 29 0] S Rt (fun _ _ => False)
def Op13 (g : Gl) (Inv : Nat → St → Prop) : Prop := ∀ (t : Nat) (S : St) (p0 : Int), t < 512 → (-2147483648 ≤ p0 ∧ p0 ≤ 2147483647) → Inv t S → ∀ Rt : Option AV → St → Prop, (∀ (k : Int) (S1 : St), (-2147483648 ≤ k ∧ k ≤ 2147483647) → (∀ Rt2 : Option AV → St → Prop, (∀ (y : Int) (S2 : St), (-2147483648 ≤ y ∧ y ≤ 2147483647) → S2 11 0 25 = k → (k = 0 → S2 29 0 0 = y) → Inv (t + 1) S2 → Rt2 (some (vI y)) S2) → Cn g yX4_share cX4_share 2 (some .int) 2 43 0 [vR 11 0, vI p0] S1 Rt2 (fun _ _ => False)) → Rt (some (vI k)) S1) → CnH g yL_share cL_share 4 (some .int) hh_share 8 132 1 [vR 0 0, vI p0, vR 29 0] S Rt (fun _ _ => False)
def Op14 (g : Gl) (Inv : Nat → St → Prop) : Prop := ∀ (t : Nat) (S : St) (p0 : Int), t < 512 → (-2147483648 ≤ p0 ∧ p0 ≤ 2147483647) → Inv t S → ∀ Rt : Option AV → St → Prop, (∀ (k : Int) (S1 : St), (-2147483648 ≤ k ∧ k ≤ 2147483647) → (∀ Rt2 : Option AV → St → Prop, (∀ (y : Int) (S2 : St), (-2147483648 ≤ y ∧ y ≤ 2147483647) → S2 11 0 25 = k → (k = 0 → S2 29 0 0 = y) → Inv (t + 1) S2 → Rt2 (some (vI y)) S2) → Cn g yX4_gain cX4_gain 2 (some .int) 2 43 0 [vR 11 0, vI p0] S1 Rt2 (fun _ _ => False)) → Rt (some (vI k)) S1) → CnH g yL_gain cL_gain 4 (some .int) hh_gain 8 132 1 [vR 0 0, vI p0, vR 29 0] S Rt (fun _ _ => False)
def Op15 (g : Gl) (Inv : Nat → St → Prop) : Prop := ∀ (t : Nat) (S : St) (p0 : Int), t < 512 → (-2147483648 ≤ p0 ∧ p0 ≤ 2147483647) → Inv t S → ∀ Rt : Option AV → St → Prop, (∀ (k : Int) (S1 : St), (-2147483648 ≤ k ∧ k ≤ 2147483647) → (∀ Rt2 : Option AV → St → Prop, (∀ (y : Int) (S2 : St), (y = 0 ∨ y = 1) → S2 11 0 25 = k → (k = 0 → S2 29 0 0 = y) → Inv (t + 1) S2 → Rt2 (some (vI y)) S2) → Cn g yX4_isJunior cX4_isJunior 2 (some .boolean) 2 43 0 [vR 11 0, vI p0] S1 Rt2 (fun _ _ => False)) → Rt (some (vI k)) S1) → CnH g yL_isJunior cL_isJunior 4 (some .int) hh_isJunior 8 132 1 [vR 0 0, vI p0, vR 29 0] S Rt (fun _ _ => False)
def Op16 (g : Gl) (Inv : Nat → St → Prop) : Prop := ∀ (t : Nat) (S : St) (p0 : Int), t < 512 → (-2147483648 ≤ p0 ∧ p0 ≤ 2147483647) → Inv t S → ∀ Rt : Option AV → St → Prop, (∀ (k : Int) (S1 : St), (-2147483648 ≤ k ∧ k ≤ 2147483647) → (∀ Rt2 : Option AV → St → Prop, (∀ (y : Int) (S2 : St), (-2147483648 ≤ y ∧ y ≤ 2147483647) → S2 11 0 25 = k → (k = 0 → S2 29 0 0 = y) → Inv (t + 1) S2 → Rt2 (some (vI y)) S2) → Cn g yX4_assessed cX4_assessed 2 (some .int) 2 43 0 [vR 11 0, vI p0] S1 Rt2 (fun _ _ => False)) → Rt (some (vI k)) S1) → CnH g yL_assessed cL_assessed 4 (some .int) hh_assessed 8 132 1 [vR 0 0, vI p0, vR 29 0] S Rt (fun _ _ => False)
def Op17 (g : Gl) (Inv : Nat → St → Prop) : Prop := ∀ (t : Nat) (S : St) (p0 : Int), t < 512 → (-2147483648 ≤ p0 ∧ p0 ≤ 2147483647) → Inv t S → ∀ Rt : Option AV → St → Prop, (∀ (k : Int) (S1 : St), (-2147483648 ≤ k ∧ k ≤ 2147483647) → (∀ Rt2 : Option AV → St → Prop, (∀ (y : Int) (S2 : St), (-2147483648 ≤ y ∧ y ≤ 2147483647) → S2 11 0 25 = k → (k = 0 → S2 29 0 0 = y) → Inv (t + 1) S2 → Rt2 (some (vI y)) S2) → Cn g yX4_clientLots cX4_clientLots 2 (some .int) 2 43 0 [vR 11 0, vI p0] S1 Rt2 (fun _ _ => False)) → Rt (some (vI k)) S1) → CnH g yL_clientLots cL_clientLots 4 (some .int) hh_clientLots 8 132 1 [vR 0 0, vI p0, vR 29 0] S Rt (fun _ _ => False)
def Op18 (g : Gl) (Inv : Nat → St → Prop) : Prop := ∀ (t : Nat) (S : St) (p0 : Int), t < 512 → (-2147483648 ≤ p0 ∧ p0 ≤ 2147483647) → Inv t S → ∀ Rt : Option AV → St → Prop, (∀ (k : Int) (S1 : St), (-2147483648 ≤ k ∧ k ≤ 2147483647) → (∀ Rt2 : Option AV → St → Prop, (∀ (y : Int) (S2 : St), (-2147483648 ≤ y ∧ y ≤ 2147483647) → S2 11 0 25 = k → (k = 0 → S2 29 0 0 = y) → Inv (t + 1) S2 → Rt2 (some (vI y)) S2) → Cn g yX4_won cX4_won 2 (some .int) 2 43 0 [vR 11 0, vI p0] S1 Rt2 (fun _ _ => False)) → Rt (some (vI k)) S1) → CnH g yL_won cL_won 4 (some .int) hh_won 8 132 1 [vR 0 0, vI p0, vR 29 0] S Rt (fun _ _ => False)
def Op19 (g : Gl) (Inv : Nat → St → Prop) : Prop := ∀ (t : Nat) (S : St), t < 512 → Inv t S → ∀ Rt : Option AV → St → Prop, (∀ (k : Int) (S1 : St), (-2147483648 ≤ k ∧ k ≤ 2147483647) → (∀ Rt2 : Option AV → St → Prop, (∀ S2 : St, Inv (t + 1) S2 → Rt2 (some (vI k)) S2) → Cn g yX4_capital cX4_capital 1 (some .int) 0 0 0 [vR 11 0] S1 Rt2 (fun _ _ => False)) → Rt (some (vI k)) S1) → Cn g yX3_capital cX3_capital 1 (some .int) 0 0 0 [vR 0 0] S Rt (fun _ _ => False)
def Op20 (g : Gl) (Inv : Nat → St → Prop) : Prop := ∀ (t : Nat) (S : St), t < 512 → Inv t S → ∀ Rt : Option AV → St → Prop, (∀ (k : Int) (S1 : St), (-2147483648 ≤ k ∧ k ≤ 2147483647) → (∀ Rt2 : Option AV → St → Prop, (∀ S2 : St, Inv (t + 1) S2 → Rt2 (some (vI k)) S2) → Cn g yX4_loss cX4_loss 1 (some .int) 0 0 0 [vR 11 0] S1 Rt2 (fun _ _ => False)) → Rt (some (vI k)) S1) → Cn g yX3_loss cX3_loss 1 (some .int) 0 0 0 [vR 0 0] S Rt (fun _ _ => False)
def Op21 (g : Gl) (Inv : Nat → St → Prop) : Prop := ∀ (t : Nat) (S : St), t < 512 → Inv t S → ∀ Rt : Option AV → St → Prop, (∀ (k : Int) (S1 : St), (-2147483648 ≤ k ∧ k ≤ 2147483647) → (∀ Rt2 : Option AV → St → Prop, (∀ S2 : St, Inv (t + 1) S2 → Rt2 (some (vI k)) S2) → Cn g yX4_uncovered cX4_uncovered 1 (some .int) 0 0 0 [vR 11 0] S1 Rt2 (fun _ _ => False)) → Rt (some (vI k)) S1) → Cn g yX3_uncovered cX3_uncovered 1 (some .int) 0 0 0 [vR 0 0] S Rt (fun _ _ => False)
def Op22 (g : Gl) (Inv : Nat → St → Prop) : Prop := ∀ (t : Nat) (S : St), t < 512 → Inv t S → ∀ Rt : Option AV → St → Prop, (∀ (k : Int) (S1 : St), (-2147483648 ≤ k ∧ k ≤ 2147483647) → (∀ Rt2 : Option AV → St → Prop, (∀ S2 : St, Inv (t + 1) S2 → Rt2 (some (vI k)) S2) → Cn g yX4_failing cX4_failing 1 (some .int) 0 0 0 [vR 11 0] S1 Rt2 (fun _ _ => False)) → Rt (some (vI k)) S1) → Cn g yX3_failing cX3_failing 1 (some .int) 0 0 0 [vR 0 0] S Rt (fun _ _ => False)
theorem rgX (x : Int32) : -2147483648 ≤ x.toInt ∧ x.toInt ≤ 2147483647 := by
  have h1 := Int32.le_toInt x
  have h2 := Int32.toInt_lt x
  omega
theorem r_xload_n {g : Gl} {own : String} {cc : ByteArray} {nL fr lo N : Nat} {K : KT} {n pc : Nat} {L : List (Option AV)} {st : List AV} {S : St} (M : Mk g own cc nL fr lo N K) {j : Fin 4} {q : Nat} (d : decode cc pc = .ok (.aload_n j, 1)) (hl : L[(j : Nat)]? = some (some (vX q))) (kk : K n (pc + 1) L (vX q :: st) S) : K n pc L (st) S :=
  M.go (fun p e R s m args below meth c A c0 s0 Q C H locs ls hW hS hL hn k => lv_aload_n C.1 C.2.1 d rfl (hL.2.2 _ _ hl) (k ls hL)) kk
section LAW
variable {g : Gl} {b Ln : Nat} {xs : Nat → Int32} {K : KT} {Inv : Nat → St → Prop} {t n : Nat} {S : St} {c5 c6 : Option AV}
theorem lc_0 (MW : MkW g b Ln xs 4096 K) (O : Op0 g Inv) (ht : 4 * t + 4 ≤ Ln) (hLn : Ln ≤ 2048) (hn : n ≤ 8 * t) (hI : Inv t S) (hk : ∀ (n9 : Nat) (S9 : St) (d5 d6 : Option AV), n9 ≤ n + 8 → Inv (t + 1) S9 → K n9 1256 [some (vX b), some (vR 0 0), some (vR 11 0), some (vR 29 0), some (vI (4 * (t : Int))), d5, d6] [] S9) : K n 144 [some (vX b), some (vR 0 0), some (vR 11 0), some (vR 29 0), some (vI (4 * (t : Int))), c5, c6] [] S := by
  have M := MW.mk
  refine r_aload_n M dL_law_144 rfl ?_
  refine r_xload_n M dL_law_145 rfl ?_
  refine r_iload M dL_law_146 rfl ?_
  refine r_iconst M dL_law_148 ?_
  refine r_iadd M dL_law_149 ?_
  refine rw_sld MW (4 * t + 1) dL_law_150 (by omega) (by omega) ?_
  refine r_xload_n M dL_law_151 rfl ?_
  refine r_iload M dL_law_152 rfl ?_
  refine r_iconst M dL_law_154 ?_
  refine r_iadd M dL_law_155 ?_
  refine rw_sld MW (4 * t + 2) dL_law_156 (by omega) (by omega) ?_
  refine r_xload_n M dL_law_157 rfl ?_
  refine r_iload M dL_law_158 rfl ?_
  refine r_iconst M dL_law_160 ?_
  refine r_iadd M dL_law_161 ?_
  refine rw_sld MW (4 * t + 3) dL_law_162 (by omega) (by omega) ?_
  refine r_aload_n M dL_law_163 rfl ?_
  refine rk_callSH M (As := [vR 0 0, vI (xs (4 * t + 1)).toInt, vI (xs (4 * t + 2)).toInt, vI (xs (4 * t + 3)).toInt, vR 29 0]) (rst := []) dL_law_164 kh_80 rfl ⟨by omega, by omega, by omega⟩ (Nat.le_of_ble_eq_true rfl) (O t S (xs (4 * t + 1)).toInt (xs (4 * t + 2)).toInt (xs (4 * t + 3)).toInt (by omega) (rgX _) (rgX _) (rgX _) hI _ (fun k S1 hk9 hC2 => ?_))
  refine r_istore_5 M dL_law_167 (by decide) rfl ?_
  refine r_aload_n M dL_law_169 rfl ?_
  refine r_xload_n M dL_law_170 rfl ?_
  refine r_iload M dL_law_171 rfl ?_
  refine r_iconst M dL_law_173 ?_
  refine r_iadd M dL_law_174 ?_
  refine rw_sld MW (4 * t + 1) dL_law_175 (by omega) (by omega) ?_
  refine r_xload_n M dL_law_176 rfl ?_
  refine r_iload M dL_law_177 rfl ?_
  refine r_iconst M dL_law_179 ?_
  refine r_iadd M dL_law_180 ?_
  refine rw_sld MW (4 * t + 2) dL_law_181 (by omega) (by omega) ?_
  refine r_xload_n M dL_law_182 rfl ?_
  refine r_iload M dL_law_183 rfl ?_
  refine r_iconst M dL_law_185 ?_
  refine r_iadd M dL_law_186 ?_
  refine rw_sld MW (4 * t + 3) dL_law_187 (by omega) (by omega) ?_
  refine rk_callV3 M dL_law_188 ck_L_85 vk_X4_addMember ⟨by omega, by omega, by omega⟩ ⟨by decide, by decide, rfl⟩ (by decide) (Nat.le_of_ble_eq_true rfl) (hC2 _ (fun y S2 hy9 ht2 ho2 hI2 => ?_))
  refine r_istore_6 M dL_law_191 (by decide) rfl ?_
  refine r_aload_n M dL_law_193 rfl ?_
  refine rk_callV0 M dL_law_194 ck_L_86 vk_X4_thrown ⟨by omega, by omega, by omega⟩ ⟨by decide, by decide, rfl⟩ (by decide) (Nat.le_of_ble_eq_true rfl) (m_thrown ?_)
  refine r_iload M dL_law_197 rfl ?_
  refine r_icmp_eq M dL_law_199 (tgt := 204) rfl (by omega) (fun b199 => ?_) (fun b199 => by exact absurd ht2 b199)
  refine r_iload M dL_law_204 rfl ?_
  refine r_if_ne M dL_law_206 (tgt := 221) rfl (by omega) (fun b206 => ?_) (fun b206 => ?_)
  · refine r_goto M dL_law_221 (tgt := 1256) rfl ?_
    exact hk _ _ _ _ (by omega) hI2
  refine r_aload_n M dL_law_209 rfl ?_
  refine r_iconst M dL_law_210 ?_
  refine r_lald M dL_law_211 ?_
  refine r_iload M dL_law_212 rfl ?_
  refine r_i2l M dL_law_214 (by omega) ?_
  refine r_lcmp M dL_law_215 (by have h9 := ho2 (by omega); omega) ?_
  refine r_if_eq M dL_law_216 (tgt := 221) rfl (by split <;> (try split) <;> omega) (fun b216 => ?_) (fun b216 => by have h9 := ho2 (by omega); first | (exfalso; apply b216; rw [h9, if_neg (by omega), if_pos rfl]) | (exfalso; apply b216; rw [h9, if_neg (by omega), if_pos (by omega)]))
  refine r_goto M dL_law_221 (tgt := 1256) rfl ?_
  exact hk _ _ _ _ (by omega) hI2
theorem lc_1 (MW : MkW g b Ln xs 4096 K) (O : Op1 g Inv) (ht : 4 * t + 4 ≤ Ln) (hLn : Ln ≤ 2048) (hn : n ≤ 8 * t) (hI : Inv t S) (hk : ∀ (n9 : Nat) (S9 : St) (d5 d6 : Option AV), n9 ≤ n + 8 → Inv (t + 1) S9 → K n9 1256 [some (vX b), some (vR 0 0), some (vR 11 0), some (vR 29 0), some (vI (4 * (t : Int))), d5, d6] [] S9) : K n 224 [some (vX b), some (vR 0 0), some (vR 11 0), some (vR 29 0), some (vI (4 * (t : Int))), c5, c6] [] S := by
  have M := MW.mk
  refine r_aload_n M dL_law_224 rfl ?_
  refine r_xload_n M dL_law_225 rfl ?_
  refine r_iload M dL_law_226 rfl ?_
  refine r_iconst M dL_law_228 ?_
  refine r_iadd M dL_law_229 ?_
  refine rw_sld MW (4 * t + 1) dL_law_230 (by omega) (by omega) ?_
  refine r_xload_n M dL_law_231 rfl ?_
  refine r_iload M dL_law_232 rfl ?_
  refine r_iconst M dL_law_234 ?_
  refine r_iadd M dL_law_235 ?_
  refine rw_sld MW (4 * t + 2) dL_law_236 (by omega) (by omega) ?_
  refine r_aload_n M dL_law_237 rfl ?_
  refine rk_callSH M (As := [vR 0 0, vI (xs (4 * t + 1)).toInt, vI (xs (4 * t + 2)).toInt, vR 29 0]) (rst := []) dL_law_238 kh_89 rfl ⟨by omega, by omega, by omega⟩ (Nat.le_of_ble_eq_true rfl) (O t S (xs (4 * t + 1)).toInt (xs (4 * t + 2)).toInt (by omega) (rgX _) (rgX _) hI _ (fun k S1 hk9 hC2 => ?_))
  refine r_istore_5 M dL_law_241 (by decide) rfl ?_
  refine r_aload_n M dL_law_243 rfl ?_
  refine r_xload_n M dL_law_244 rfl ?_
  refine r_iload M dL_law_245 rfl ?_
  refine r_iconst M dL_law_247 ?_
  refine r_iadd M dL_law_248 ?_
  refine rw_sld MW (4 * t + 1) dL_law_249 (by omega) (by omega) ?_
  refine r_xload_n M dL_law_250 rfl ?_
  refine r_iload M dL_law_251 rfl ?_
  refine r_iconst M dL_law_253 ?_
  refine r_iadd M dL_law_254 ?_
  refine rw_sld MW (4 * t + 2) dL_law_255 (by omega) (by omega) ?_
  refine rk_callV2 M dL_law_256 ck_L_92 vk_X4_addClient ⟨by omega, by omega, by omega⟩ ⟨by decide, by decide, rfl⟩ (by decide) (Nat.le_of_ble_eq_true rfl) (hC2 _ (fun y S2 hy9 ht2 ho2 hI2 => ?_))
  refine r_istore_6 M dL_law_259 (by decide) rfl ?_
  refine r_aload_n M dL_law_261 rfl ?_
  refine rk_callV0 M dL_law_262 ck_L_86 vk_X4_thrown ⟨by omega, by omega, by omega⟩ ⟨by decide, by decide, rfl⟩ (by decide) (Nat.le_of_ble_eq_true rfl) (m_thrown ?_)
  refine r_iload M dL_law_265 rfl ?_
  refine r_icmp_eq M dL_law_267 (tgt := 272) rfl (by omega) (fun b267 => ?_) (fun b267 => by exact absurd ht2 b267)
  refine r_iload M dL_law_272 rfl ?_
  refine r_if_ne M dL_law_274 (tgt := 289) rfl (by omega) (fun b274 => ?_) (fun b274 => ?_)
  · refine r_goto M dL_law_289 (tgt := 1256) rfl ?_
    exact hk _ _ _ _ (by omega) hI2
  refine r_aload_n M dL_law_277 rfl ?_
  refine r_iconst M dL_law_278 ?_
  refine r_lald M dL_law_279 ?_
  refine r_iload M dL_law_280 rfl ?_
  refine r_i2l M dL_law_282 (by omega) ?_
  refine r_lcmp M dL_law_283 (by have h9 := ho2 (by omega); omega) ?_
  refine r_if_eq M dL_law_284 (tgt := 289) rfl (by split <;> (try split) <;> omega) (fun b284 => ?_) (fun b284 => by have h9 := ho2 (by omega); first | (exfalso; apply b284; rw [h9, if_neg (by omega), if_pos rfl]) | (exfalso; apply b284; rw [h9, if_neg (by omega), if_pos (by omega)]))
  refine r_goto M dL_law_289 (tgt := 1256) rfl ?_
  exact hk _ _ _ _ (by omega) hI2
theorem lc_2 (MW : MkW g b Ln xs 4096 K) (O : Op2 g Inv) (ht : 4 * t + 4 ≤ Ln) (hLn : Ln ≤ 2048) (hn : n ≤ 8 * t) (hI : Inv t S) (hk : ∀ (n9 : Nat) (S9 : St) (d5 d6 : Option AV), n9 ≤ n + 8 → Inv (t + 1) S9 → K n9 1256 [some (vX b), some (vR 0 0), some (vR 11 0), some (vR 29 0), some (vI (4 * (t : Int))), d5, d6] [] S9) : K n 292 [some (vX b), some (vR 0 0), some (vR 11 0), some (vR 29 0), some (vI (4 * (t : Int))), c5, c6] [] S := by
  have M := MW.mk
  refine r_aload_n M dL_law_292 rfl ?_
  refine r_xload_n M dL_law_293 rfl ?_
  refine r_iload M dL_law_294 rfl ?_
  refine r_iconst M dL_law_296 ?_
  refine r_iadd M dL_law_297 ?_
  refine rw_sld MW (4 * t + 1) dL_law_298 (by omega) (by omega) ?_
  refine r_xload_n M dL_law_299 rfl ?_
  refine r_iload M dL_law_300 rfl ?_
  refine r_iconst M dL_law_302 ?_
  refine r_iadd M dL_law_303 ?_
  refine rw_sld MW (4 * t + 2) dL_law_304 (by omega) (by omega) ?_
  refine r_aload_n M dL_law_305 rfl ?_
  refine rk_callSH M (As := [vR 0 0, vI (xs (4 * t + 1)).toInt, vI (xs (4 * t + 2)).toInt, vR 29 0]) (rst := []) dL_law_306 kh_93 rfl ⟨by omega, by omega, by omega⟩ (Nat.le_of_ble_eq_true rfl) (O t S (xs (4 * t + 1)).toInt (xs (4 * t + 2)).toInt (by omega) (rgX _) (rgX _) hI _ (fun k S1 hk9 hC2 => ?_))
  refine r_istore_5 M dL_law_309 (by decide) rfl ?_
  refine r_aload_n M dL_law_311 rfl ?_
  refine r_xload_n M dL_law_312 rfl ?_
  refine r_iload M dL_law_313 rfl ?_
  refine r_iconst M dL_law_315 ?_
  refine r_iadd M dL_law_316 ?_
  refine rw_sld MW (4 * t + 1) dL_law_317 (by omega) (by omega) ?_
  refine r_xload_n M dL_law_318 rfl ?_
  refine r_iload M dL_law_319 rfl ?_
  refine r_iconst M dL_law_321 ?_
  refine r_iadd M dL_law_322 ?_
  refine rw_sld MW (4 * t + 2) dL_law_323 (by omega) (by omega) ?_
  refine rk_callV2 M dL_law_324 ck_L_95 vk_X4_setGain ⟨by omega, by omega, by omega⟩ ⟨by decide, by decide, rfl⟩ (by decide) (Nat.le_of_ble_eq_true rfl) (hC2 _ (fun y S2 hy9 ht2 ho2 hI2 => ?_))
  refine r_istore_6 M dL_law_327 (by decide) rfl ?_
  refine r_aload_n M dL_law_329 rfl ?_
  refine rk_callV0 M dL_law_330 ck_L_86 vk_X4_thrown ⟨by omega, by omega, by omega⟩ ⟨by decide, by decide, rfl⟩ (by decide) (Nat.le_of_ble_eq_true rfl) (m_thrown ?_)
  refine r_iload M dL_law_333 rfl ?_
  refine r_icmp_eq M dL_law_335 (tgt := 340) rfl (by omega) (fun b335 => ?_) (fun b335 => by exact absurd ht2 b335)
  refine r_iload M dL_law_340 rfl ?_
  refine r_if_ne M dL_law_342 (tgt := 357) rfl (by omega) (fun b342 => ?_) (fun b342 => ?_)
  · refine r_goto M dL_law_357 (tgt := 1256) rfl ?_
    exact hk _ _ _ _ (by omega) hI2
  refine r_aload_n M dL_law_345 rfl ?_
  refine r_iconst M dL_law_346 ?_
  refine r_lald M dL_law_347 ?_
  refine r_iload M dL_law_348 rfl ?_
  refine r_i2l M dL_law_350 (by omega) ?_
  refine r_lcmp M dL_law_351 (by have h9 := ho2 (by omega); omega) ?_
  refine r_if_eq M dL_law_352 (tgt := 357) rfl (by split <;> (try split) <;> omega) (fun b352 => ?_) (fun b352 => by have h9 := ho2 (by omega); first | (exfalso; apply b352; rw [h9, if_neg (by omega), if_pos rfl]) | (exfalso; apply b352; rw [h9, if_neg (by omega), if_pos (by omega)]))
  refine r_goto M dL_law_357 (tgt := 1256) rfl ?_
  exact hk _ _ _ _ (by omega) hI2
theorem lc_3 (MW : MkW g b Ln xs 4096 K) (O : Op3 g Inv) (ht : 4 * t + 4 ≤ Ln) (hLn : Ln ≤ 2048) (hn : n ≤ 8 * t) (hI : Inv t S) (hk : ∀ (n9 : Nat) (S9 : St) (d5 d6 : Option AV), n9 ≤ n + 8 → Inv (t + 1) S9 → K n9 1256 [some (vX b), some (vR 0 0), some (vR 11 0), some (vR 29 0), some (vI (4 * (t : Int))), d5, d6] [] S9) : K n 360 [some (vX b), some (vR 0 0), some (vR 11 0), some (vR 29 0), some (vI (4 * (t : Int))), c5, c6] [] S := by
  have M := MW.mk
  refine r_aload_n M dL_law_360 rfl ?_
  refine r_xload_n M dL_law_361 rfl ?_
  refine r_iload M dL_law_362 rfl ?_
  refine r_iconst M dL_law_364 ?_
  refine r_iadd M dL_law_365 ?_
  refine rw_sld MW (4 * t + 1) dL_law_366 (by omega) (by omega) ?_
  refine r_xload_n M dL_law_367 rfl ?_
  refine r_iload M dL_law_368 rfl ?_
  refine r_iconst M dL_law_370 ?_
  refine r_iadd M dL_law_371 ?_
  refine rw_sld MW (4 * t + 2) dL_law_372 (by omega) (by omega) ?_
  refine r_aload_n M dL_law_373 rfl ?_
  refine rk_callSH M (As := [vR 0 0, vI (xs (4 * t + 1)).toInt, vI (xs (4 * t + 2)).toInt, vR 29 0]) (rst := []) dL_law_374 kh_96 rfl ⟨by omega, by omega, by omega⟩ (Nat.le_of_ble_eq_true rfl) (O t S (xs (4 * t + 1)).toInt (xs (4 * t + 2)).toInt (by omega) (rgX _) (rgX _) hI _ (fun k S1 hk9 hC2 => ?_))
  refine r_istore_5 M dL_law_377 (by decide) rfl ?_
  refine r_aload_n M dL_law_379 rfl ?_
  refine r_xload_n M dL_law_380 rfl ?_
  refine r_iload M dL_law_381 rfl ?_
  refine r_iconst M dL_law_383 ?_
  refine r_iadd M dL_law_384 ?_
  refine rw_sld MW (4 * t + 1) dL_law_385 (by omega) (by omega) ?_
  refine r_xload_n M dL_law_386 rfl ?_
  refine r_iload M dL_law_387 rfl ?_
  refine r_iconst M dL_law_389 ?_
  refine r_iadd M dL_law_390 ?_
  refine rw_sld MW (4 * t + 2) dL_law_391 (by omega) (by omega) ?_
  refine rk_callV2 M dL_law_392 ck_L_98 vk_X4_setTested ⟨by omega, by omega, by omega⟩ ⟨by decide, by decide, rfl⟩ (by decide) (Nat.le_of_ble_eq_true rfl) (hC2 _ (fun y S2 hy9 ht2 ho2 hI2 => ?_))
  refine r_istore_6 M dL_law_395 (by decide) rfl ?_
  refine r_aload_n M dL_law_397 rfl ?_
  refine rk_callV0 M dL_law_398 ck_L_86 vk_X4_thrown ⟨by omega, by omega, by omega⟩ ⟨by decide, by decide, rfl⟩ (by decide) (Nat.le_of_ble_eq_true rfl) (m_thrown ?_)
  refine r_iload M dL_law_401 rfl ?_
  refine r_icmp_eq M dL_law_403 (tgt := 408) rfl (by omega) (fun b403 => ?_) (fun b403 => by exact absurd ht2 b403)
  refine r_iload M dL_law_408 rfl ?_
  refine r_if_ne M dL_law_410 (tgt := 425) rfl (by omega) (fun b410 => ?_) (fun b410 => ?_)
  · refine r_goto M dL_law_425 (tgt := 1256) rfl ?_
    exact hk _ _ _ _ (by omega) hI2
  refine r_aload_n M dL_law_413 rfl ?_
  refine r_iconst M dL_law_414 ?_
  refine r_lald M dL_law_415 ?_
  refine r_iload M dL_law_416 rfl ?_
  refine r_i2l M dL_law_418 (by omega) ?_
  refine r_lcmp M dL_law_419 (by have h9 := ho2 (by omega); omega) ?_
  refine r_if_eq M dL_law_420 (tgt := 425) rfl (by split <;> (try split) <;> omega) (fun b420 => ?_) (fun b420 => by have h9 := ho2 (by omega); first | (exfalso; apply b420; rw [h9, if_neg (by omega), if_pos rfl]) | (exfalso; apply b420; rw [h9, if_neg (by omega), if_pos (by omega)]))
  refine r_goto M dL_law_425 (tgt := 1256) rfl ?_
  exact hk _ _ _ _ (by omega) hI2
theorem lc_4 (MW : MkW g b Ln xs 4096 K) (O : Op4 g Inv) (ht : 4 * t + 4 ≤ Ln) (hLn : Ln ≤ 2048) (hn : n ≤ 8 * t) (hI : Inv t S) (hk : ∀ (n9 : Nat) (S9 : St) (d5 d6 : Option AV), n9 ≤ n + 8 → Inv (t + 1) S9 → K n9 1256 [some (vX b), some (vR 0 0), some (vR 11 0), some (vR 29 0), some (vI (4 * (t : Int))), d5, d6] [] S9) : K n 428 [some (vX b), some (vR 0 0), some (vR 11 0), some (vR 29 0), some (vI (4 * (t : Int))), c5, c6] [] S := by
  have M := MW.mk
  refine r_aload_n M dL_law_428 rfl ?_
  refine r_xload_n M dL_law_429 rfl ?_
  refine r_iload M dL_law_430 rfl ?_
  refine r_iconst M dL_law_432 ?_
  refine r_iadd M dL_law_433 ?_
  refine rw_sld MW (4 * t + 1) dL_law_434 (by omega) (by omega) ?_
  refine r_aload_n M dL_law_435 rfl ?_
  refine rk_callSH M (As := [vR 0 0, vI (xs (4 * t + 1)).toInt, vR 29 0]) (rst := []) dL_law_436 kh_99 rfl ⟨by omega, by omega, by omega⟩ (Nat.le_of_ble_eq_true rfl) (O t S (xs (4 * t + 1)).toInt (by omega) (rgX _) hI _ (fun k S1 hk9 hC2 => ?_))
  refine r_istore_5 M dL_law_439 (by decide) rfl ?_
  refine r_aload_n M dL_law_441 rfl ?_
  refine r_xload_n M dL_law_442 rfl ?_
  refine r_iload M dL_law_443 rfl ?_
  refine r_iconst M dL_law_445 ?_
  refine r_iadd M dL_law_446 ?_
  refine rw_sld MW (4 * t + 1) dL_law_447 (by omega) (by omega) ?_
  refine rk_callV1 M dL_law_448 ck_L_102 vk_X4_setCapital ⟨by omega, by omega, by omega⟩ ⟨by decide, by decide, rfl⟩ (by decide) (Nat.le_of_ble_eq_true rfl) (hC2 _ (fun y S2 hy9 ht2 ho2 hI2 => ?_))
  refine r_istore_6 M dL_law_451 (by decide) rfl ?_
  refine r_aload_n M dL_law_453 rfl ?_
  refine rk_callV0 M dL_law_454 ck_L_86 vk_X4_thrown ⟨by omega, by omega, by omega⟩ ⟨by decide, by decide, rfl⟩ (by decide) (Nat.le_of_ble_eq_true rfl) (m_thrown ?_)
  refine r_iload M dL_law_457 rfl ?_
  refine r_icmp_eq M dL_law_459 (tgt := 464) rfl (by omega) (fun b459 => ?_) (fun b459 => by exact absurd ht2 b459)
  refine r_iload M dL_law_464 rfl ?_
  refine r_if_ne M dL_law_466 (tgt := 481) rfl (by omega) (fun b466 => ?_) (fun b466 => ?_)
  · refine r_goto M dL_law_481 (tgt := 1256) rfl ?_
    exact hk _ _ _ _ (by omega) hI2
  refine r_aload_n M dL_law_469 rfl ?_
  refine r_iconst M dL_law_470 ?_
  refine r_lald M dL_law_471 ?_
  refine r_iload M dL_law_472 rfl ?_
  refine r_i2l M dL_law_474 (by omega) ?_
  refine r_lcmp M dL_law_475 (by have h9 := ho2 (by omega); omega) ?_
  refine r_if_eq M dL_law_476 (tgt := 481) rfl (by split <;> (try split) <;> omega) (fun b476 => ?_) (fun b476 => by have h9 := ho2 (by omega); first | (exfalso; apply b476; rw [h9, if_neg (by omega), if_pos rfl]) | (exfalso; apply b476; rw [h9, if_neg (by omega), if_pos (by omega)]))
  refine r_goto M dL_law_481 (tgt := 1256) rfl ?_
  exact hk _ _ _ _ (by omega) hI2
theorem lc_5 (MW : MkW g b Ln xs 4096 K) (O : Op5 g Inv) (ht : 4 * t + 4 ≤ Ln) (hLn : Ln ≤ 2048) (hn : n ≤ 8 * t) (hI : Inv t S) (hk : ∀ (n9 : Nat) (S9 : St) (d5 d6 : Option AV), n9 ≤ n + 8 → Inv (t + 1) S9 → K n9 1256 [some (vX b), some (vR 0 0), some (vR 11 0), some (vR 29 0), some (vI (4 * (t : Int))), d5, d6] [] S9) : K n 484 [some (vX b), some (vR 0 0), some (vR 11 0), some (vR 29 0), some (vI (4 * (t : Int))), c5, c6] [] S := by
  have M := MW.mk
  refine r_aload_n M dL_law_484 rfl ?_
  refine r_xload_n M dL_law_485 rfl ?_
  refine r_iload M dL_law_486 rfl ?_
  refine r_iconst M dL_law_488 ?_
  refine r_iadd M dL_law_489 ?_
  refine rw_sld MW (4 * t + 1) dL_law_490 (by omega) (by omega) ?_
  refine rk_callSH M (As := [vR 0 0, vI (xs (4 * t + 1)).toInt]) (rst := []) dL_law_491 kh_103 rfl ⟨by omega, by omega, by omega⟩ (Nat.le_of_ble_eq_true rfl) (O t S (xs (4 * t + 1)).toInt (by omega) (rgX _) hI _ (fun k S1 hk9 hC2 => ?_))
  refine r_istore_5 M dL_law_494 (by decide) rfl ?_
  refine r_aload_n M dL_law_496 rfl ?_
  refine r_xload_n M dL_law_497 rfl ?_
  refine r_iload M dL_law_498 rfl ?_
  refine r_iconst M dL_law_500 ?_
  refine r_iadd M dL_law_501 ?_
  refine rw_sld MW (4 * t + 1) dL_law_502 (by omega) (by omega) ?_
  refine rk_callV1 M dL_law_503 ck_L_106 vk_X4_giveNotice ⟨by omega, by omega, by omega⟩ ⟨by decide, by decide, rfl⟩ (by decide) (Nat.le_of_ble_eq_true rfl) (hC2 _ (fun S2 ht2 hI2 => ?_))
  refine r_aload_n M dL_law_506 rfl ?_
  refine rk_callV0 M dL_law_507 ck_L_86 vk_X4_thrown ⟨by omega, by omega, by omega⟩ ⟨by decide, by decide, rfl⟩ (by decide) (Nat.le_of_ble_eq_true rfl) (m_thrown ?_)
  refine r_iload M dL_law_510 rfl ?_
  refine r_icmp_eq M dL_law_512 (tgt := 517) rfl (by omega) (fun b512 => ?_) (fun b512 => by exact absurd ht2 b512)
  refine r_goto M dL_law_517 (tgt := 1256) rfl ?_
  exact hk _ _ _ _ (by omega) hI2
theorem lc_6 (MW : MkW g b Ln xs 4096 K) (O : Op6 g Inv) (ht : 4 * t + 4 ≤ Ln) (hLn : Ln ≤ 2048) (hn : n ≤ 8 * t) (hI : Inv t S) (hk : ∀ (n9 : Nat) (S9 : St) (d5 d6 : Option AV), n9 ≤ n + 8 → Inv (t + 1) S9 → K n9 1256 [some (vX b), some (vR 0 0), some (vR 11 0), some (vR 29 0), some (vI (4 * (t : Int))), d5, d6] [] S9) : K n 520 [some (vX b), some (vR 0 0), some (vR 11 0), some (vR 29 0), some (vI (4 * (t : Int))), c5, c6] [] S := by
  have M := MW.mk
  refine r_aload_n M dL_law_520 rfl ?_
  refine r_aload_n M dL_law_521 rfl ?_
  refine rk_callSH M (As := [vR 0 0, vR 29 0]) (rst := []) dL_law_522 kh_107 rfl ⟨by omega, by omega, by omega⟩ (Nat.le_of_ble_eq_true rfl) (O t S  (by omega)  hI _ (fun k S1 hk9 hC2 => ?_))
  refine r_istore_5 M dL_law_525 (by decide) rfl ?_
  refine r_aload_n M dL_law_527 rfl ?_
  refine rk_callV0 M dL_law_528 ck_L_110 vk_X4_size ⟨by omega, by omega, by omega⟩ ⟨by decide, by decide, rfl⟩ (by decide) (Nat.le_of_ble_eq_true rfl) (hC2 _ (fun y S2 hy9 ht2 ho2 hI2 => ?_))
  refine r_istore_6 M dL_law_531 (by decide) rfl ?_
  refine r_aload_n M dL_law_533 rfl ?_
  refine rk_callV0 M dL_law_534 ck_L_86 vk_X4_thrown ⟨by omega, by omega, by omega⟩ ⟨by decide, by decide, rfl⟩ (by decide) (Nat.le_of_ble_eq_true rfl) (m_thrown ?_)
  refine r_iload M dL_law_537 rfl ?_
  refine r_icmp_eq M dL_law_539 (tgt := 544) rfl (by omega) (fun b539 => ?_) (fun b539 => by exact absurd ht2 b539)
  refine r_iload M dL_law_544 rfl ?_
  refine r_if_ne M dL_law_546 (tgt := 561) rfl (by omega) (fun b546 => ?_) (fun b546 => ?_)
  · refine r_goto M dL_law_561 (tgt := 1256) rfl ?_
    exact hk _ _ _ _ (by omega) hI2
  refine r_aload_n M dL_law_549 rfl ?_
  refine r_iconst M dL_law_550 ?_
  refine r_lald M dL_law_551 ?_
  refine r_iload M dL_law_552 rfl ?_
  refine r_i2l M dL_law_554 (by omega) ?_
  refine r_lcmp M dL_law_555 (by have h9 := ho2 (by omega); omega) ?_
  refine r_if_eq M dL_law_556 (tgt := 561) rfl (by split <;> (try split) <;> omega) (fun b556 => ?_) (fun b556 => by have h9 := ho2 (by omega); first | (exfalso; apply b556; rw [h9, if_neg (by omega), if_pos rfl]) | (exfalso; apply b556; rw [h9, if_neg (by omega), if_pos (by omega)]))
  refine r_goto M dL_law_561 (tgt := 1256) rfl ?_
  exact hk _ _ _ _ (by omega) hI2
theorem lc_7 (MW : MkW g b Ln xs 4096 K) (O : Op7 g Inv) (ht : 4 * t + 4 ≤ Ln) (hLn : Ln ≤ 2048) (hn : n ≤ 8 * t) (hI : Inv t S) (hk : ∀ (n9 : Nat) (S9 : St) (d5 d6 : Option AV), n9 ≤ n + 8 → Inv (t + 1) S9 → K n9 1256 [some (vX b), some (vR 0 0), some (vR 11 0), some (vR 29 0), some (vI (4 * (t : Int))), d5, d6] [] S9) : K n 564 [some (vX b), some (vR 0 0), some (vR 11 0), some (vR 29 0), some (vI (4 * (t : Int))), c5, c6] [] S := by
  have M := MW.mk
  refine r_aload_n M dL_law_564 rfl ?_
  refine r_xload_n M dL_law_565 rfl ?_
  refine r_iload M dL_law_566 rfl ?_
  refine r_iconst M dL_law_568 ?_
  refine r_iadd M dL_law_569 ?_
  refine rw_sld MW (4 * t + 1) dL_law_570 (by omega) (by omega) ?_
  refine r_xload_n M dL_law_571 rfl ?_
  refine r_iload M dL_law_572 rfl ?_
  refine r_iconst M dL_law_574 ?_
  refine r_iadd M dL_law_575 ?_
  refine rw_sld MW (4 * t + 2) dL_law_576 (by omega) (by omega) ?_
  refine r_aload_n M dL_law_577 rfl ?_
  refine rk_callSH M (As := [vR 0 0, vI (xs (4 * t + 1)).toInt, vI (xs (4 * t + 2)).toInt, vR 29 0]) (rst := []) dL_law_578 kh_111 rfl ⟨by omega, by omega, by omega⟩ (Nat.le_of_ble_eq_true rfl) (O t S (xs (4 * t + 1)).toInt (xs (4 * t + 2)).toInt (by omega) (rgX _) (rgX _) hI _ (fun k S1 hk9 hC2 => ?_))
  refine r_istore_5 M dL_law_581 (by decide) rfl ?_
  refine r_aload_n M dL_law_583 rfl ?_
  refine r_xload_n M dL_law_584 rfl ?_
  refine r_iload M dL_law_585 rfl ?_
  refine r_iconst M dL_law_587 ?_
  refine r_iadd M dL_law_588 ?_
  refine rw_sld MW (4 * t + 1) dL_law_589 (by omega) (by omega) ?_
  refine r_xload_n M dL_law_590 rfl ?_
  refine r_iload M dL_law_591 rfl ?_
  refine r_iconst M dL_law_593 ?_
  refine r_iadd M dL_law_594 ?_
  refine rw_sld MW (4 * t + 2) dL_law_595 (by omega) (by omega) ?_
  refine rk_callV2 M dL_law_596 ck_L_113 vk_X4_fail ⟨by omega, by omega, by omega⟩ ⟨by decide, by decide, rfl⟩ (by decide) (Nat.le_of_ble_eq_true rfl) (hC2 _ (fun y S2 hy9 ht2 ho2 hI2 => ?_))
  refine r_istore_6 M dL_law_599 (by decide) rfl ?_
  refine r_aload_n M dL_law_601 rfl ?_
  refine rk_callV0 M dL_law_602 ck_L_86 vk_X4_thrown ⟨by omega, by omega, by omega⟩ ⟨by decide, by decide, rfl⟩ (by decide) (Nat.le_of_ble_eq_true rfl) (m_thrown ?_)
  refine r_iload M dL_law_605 rfl ?_
  refine r_icmp_eq M dL_law_607 (tgt := 612) rfl (by omega) (fun b607 => ?_) (fun b607 => by exact absurd ht2 b607)
  refine r_iload M dL_law_612 rfl ?_
  refine r_if_ne M dL_law_614 (tgt := 629) rfl (by omega) (fun b614 => ?_) (fun b614 => ?_)
  · refine r_goto M dL_law_629 (tgt := 1256) rfl ?_
    exact hk _ _ _ _ (by omega) hI2
  refine r_aload_n M dL_law_617 rfl ?_
  refine r_iconst M dL_law_618 ?_
  refine r_lald M dL_law_619 ?_
  refine r_iload M dL_law_620 rfl ?_
  refine r_i2l M dL_law_622 (by omega) ?_
  refine r_lcmp M dL_law_623 (by have h9 := ho2 (by omega); omega) ?_
  refine r_if_eq M dL_law_624 (tgt := 629) rfl (by split <;> (try split) <;> omega) (fun b624 => ?_) (fun b624 => by have h9 := ho2 (by omega); first | (exfalso; apply b624; rw [h9, if_neg (by omega), if_pos rfl]) | (exfalso; apply b624; rw [h9, if_neg (by omega), if_pos (by omega)]))
  refine r_goto M dL_law_629 (tgt := 1256) rfl ?_
  exact hk _ _ _ _ (by omega) hI2
theorem lc_8 (MW : MkW g b Ln xs 4096 K) (O : Op8 g Inv) (ht : 4 * t + 4 ≤ Ln) (hLn : Ln ≤ 2048) (hn : n ≤ 8 * t) (hI : Inv t S) (hk : ∀ (n9 : Nat) (S9 : St) (d5 d6 : Option AV), n9 ≤ n + 8 → Inv (t + 1) S9 → K n9 1256 [some (vX b), some (vR 0 0), some (vR 11 0), some (vR 29 0), some (vI (4 * (t : Int))), d5, d6] [] S9) : K n 632 [some (vX b), some (vR 0 0), some (vR 11 0), some (vR 29 0), some (vI (4 * (t : Int))), c5, c6] [] S := by
  have M := MW.mk
  refine r_aload_n M dL_law_632 rfl ?_
  refine r_xload_n M dL_law_633 rfl ?_
  refine r_iload M dL_law_634 rfl ?_
  refine r_iconst M dL_law_636 ?_
  refine r_iadd M dL_law_637 ?_
  refine rw_sld MW (4 * t + 1) dL_law_638 (by omega) (by omega) ?_
  refine r_xload_n M dL_law_639 rfl ?_
  refine r_iload M dL_law_640 rfl ?_
  refine r_iconst M dL_law_642 ?_
  refine r_iadd M dL_law_643 ?_
  refine rw_sld MW (4 * t + 2) dL_law_644 (by omega) (by omega) ?_
  refine r_xload_n M dL_law_645 rfl ?_
  refine r_iload M dL_law_646 rfl ?_
  refine r_iconst M dL_law_648 ?_
  refine r_iadd M dL_law_649 ?_
  refine rw_sld MW (4 * t + 3) dL_law_650 (by omega) (by omega) ?_
  refine rk_callSH M (As := [vR 0 0, vI (xs (4 * t + 1)).toInt, vI (xs (4 * t + 2)).toInt, vI (xs (4 * t + 3)).toInt]) (rst := []) dL_law_651 kh_114 rfl ⟨by omega, by omega, by omega⟩ (Nat.le_of_ble_eq_true rfl) (O t S (xs (4 * t + 1)).toInt (xs (4 * t + 2)).toInt (xs (4 * t + 3)).toInt (by omega) (rgX _) (rgX _) (rgX _) hI _ (fun k S1 hk9 hC2 => ?_))
  refine r_istore_5 M dL_law_654 (by decide) rfl ?_
  refine r_aload_n M dL_law_656 rfl ?_
  refine r_xload_n M dL_law_657 rfl ?_
  refine r_iload M dL_law_658 rfl ?_
  refine r_iconst M dL_law_660 ?_
  refine r_iadd M dL_law_661 ?_
  refine rw_sld MW (4 * t + 1) dL_law_662 (by omega) (by omega) ?_
  refine r_xload_n M dL_law_663 rfl ?_
  refine r_iload M dL_law_664 rfl ?_
  refine r_iconst M dL_law_666 ?_
  refine r_iadd M dL_law_667 ?_
  refine rw_sld MW (4 * t + 2) dL_law_668 (by omega) (by omega) ?_
  refine r_xload_n M dL_law_669 rfl ?_
  refine r_iload M dL_law_670 rfl ?_
  refine r_iconst M dL_law_672 ?_
  refine r_iadd M dL_law_673 ?_
  refine rw_sld MW (4 * t + 3) dL_law_674 (by omega) (by omega) ?_
  refine rk_callV3 M dL_law_675 ck_L_117 vk_X4_bid ⟨by omega, by omega, by omega⟩ ⟨by decide, by decide, rfl⟩ (by decide) (Nat.le_of_ble_eq_true rfl) (hC2 _ (fun S2 ht2 hI2 => ?_))
  refine r_aload_n M dL_law_678 rfl ?_
  refine rk_callV0 M dL_law_679 ck_L_86 vk_X4_thrown ⟨by omega, by omega, by omega⟩ ⟨by decide, by decide, rfl⟩ (by decide) (Nat.le_of_ble_eq_true rfl) (m_thrown ?_)
  refine r_iload M dL_law_682 rfl ?_
  refine r_icmp_eq M dL_law_684 (tgt := 689) rfl (by omega) (fun b684 => ?_) (fun b684 => by exact absurd ht2 b684)
  refine r_goto M dL_law_689 (tgt := 1256) rfl ?_
  exact hk _ _ _ _ (by omega) hI2
theorem lc_9 (MW : MkW g b Ln xs 4096 K) (O : Op9 g Inv) (ht : 4 * t + 4 ≤ Ln) (hLn : Ln ≤ 2048) (hn : n ≤ 8 * t) (hI : Inv t S) (hk : ∀ (n9 : Nat) (S9 : St) (d5 d6 : Option AV), n9 ≤ n + 8 → Inv (t + 1) S9 → K n9 1256 [some (vX b), some (vR 0 0), some (vR 11 0), some (vR 29 0), some (vI (4 * (t : Int))), d5, d6] [] S9) : K n 692 [some (vX b), some (vR 0 0), some (vR 11 0), some (vR 29 0), some (vI (4 * (t : Int))), c5, c6] [] S := by
  have M := MW.mk
  refine r_aload_n M dL_law_692 rfl ?_
  refine r_aload_n M dL_law_693 rfl ?_
  refine rk_callSH M (As := [vR 0 0, vR 29 0]) (rst := []) dL_law_694 kh_118 rfl ⟨by omega, by omega, by omega⟩ (Nat.le_of_ble_eq_true rfl) (O t S  (by omega)  hI _ (fun k S1 hk9 hC2 => ?_))
  refine r_istore_5 M dL_law_697 (by decide) rfl ?_
  refine r_aload_n M dL_law_699 rfl ?_
  refine rk_callV0 M dL_law_700 ck_L_120 vk_X4_close ⟨by omega, by omega, by omega⟩ ⟨by decide, by decide, rfl⟩ (by decide) (Nat.le_of_ble_eq_true rfl) (hC2 _ (fun y S2 hy9 ht2 ho2 hI2 => ?_))
  refine r_istore_6 M dL_law_703 (by decide) rfl ?_
  refine r_aload_n M dL_law_705 rfl ?_
  refine rk_callV0 M dL_law_706 ck_L_86 vk_X4_thrown ⟨by omega, by omega, by omega⟩ ⟨by decide, by decide, rfl⟩ (by decide) (Nat.le_of_ble_eq_true rfl) (m_thrown ?_)
  refine r_iload M dL_law_709 rfl ?_
  refine r_icmp_eq M dL_law_711 (tgt := 716) rfl (by omega) (fun b711 => ?_) (fun b711 => by exact absurd ht2 b711)
  refine r_iload M dL_law_716 rfl ?_
  refine r_if_ne M dL_law_718 (tgt := 733) rfl (by omega) (fun b718 => ?_) (fun b718 => ?_)
  · refine r_goto M dL_law_733 (tgt := 1256) rfl ?_
    exact hk _ _ _ _ (by omega) hI2
  refine r_aload_n M dL_law_721 rfl ?_
  refine r_iconst M dL_law_722 ?_
  refine r_lald M dL_law_723 ?_
  refine r_iload M dL_law_724 rfl ?_
  refine r_i2l M dL_law_726 (by omega) ?_
  refine r_lcmp M dL_law_727 (by have h9 := ho2 (by omega); omega) ?_
  refine r_if_eq M dL_law_728 (tgt := 733) rfl (by split <;> (try split) <;> omega) (fun b728 => ?_) (fun b728 => by have h9 := ho2 (by omega); first | (exfalso; apply b728; rw [h9, if_neg (by omega), if_pos rfl]) | (exfalso; apply b728; rw [h9, if_neg (by omega), if_pos (by omega)]))
  refine r_goto M dL_law_733 (tgt := 1256) rfl ?_
  exact hk _ _ _ _ (by omega) hI2
theorem lc_10 (MW : MkW g b Ln xs 4096 K) (O : Op10 g Inv) (ht : 4 * t + 4 ≤ Ln) (hLn : Ln ≤ 2048) (hn : n ≤ 8 * t) (hI : Inv t S) (hk : ∀ (n9 : Nat) (S9 : St) (d5 d6 : Option AV), n9 ≤ n + 8 → Inv (t + 1) S9 → K n9 1256 [some (vX b), some (vR 0 0), some (vR 11 0), some (vR 29 0), some (vI (4 * (t : Int))), d5, d6] [] S9) : K n 736 [some (vX b), some (vR 0 0), some (vR 11 0), some (vR 29 0), some (vI (4 * (t : Int))), c5, c6] [] S := by
  have M := MW.mk
  refine r_aload_n M dL_law_736 rfl ?_
  refine rk_callV0 M dL_law_737 ck_L_121 vk_X3_members ⟨by omega, by omega, by omega⟩ ⟨by decide, by decide, rfl⟩ (by decide) (Nat.le_of_ble_eq_true rfl) (O t S (by omega) hI _ (fun k S1 hk9 hC2 => ?_))
  refine r_aload_n M dL_law_740 rfl ?_
  refine rk_callV0 M dL_law_741 ck_L_124 vk_X4_members ⟨by omega, by omega, by omega⟩ ⟨by decide, by decide, rfl⟩ (by decide) (Nat.le_of_ble_eq_true rfl) (hC2 _ (fun S2 hI2 => ?_))
  refine r_icmp_eq M dL_law_744 (tgt := 1256) rfl (by omega) (fun b744 => ?_) (fun b744 => by exact absurd rfl b744)
  exact hk _ _ _ _ (by omega) hI2
theorem lc_11 (MW : MkW g b Ln xs 4096 K) (O : Op11 g Inv) (ht : 4 * t + 4 ≤ Ln) (hLn : Ln ≤ 2048) (hn : n ≤ 8 * t) (hI : Inv t S) (hk : ∀ (n9 : Nat) (S9 : St) (d5 d6 : Option AV), n9 ≤ n + 8 → Inv (t + 1) S9 → K n9 1256 [some (vX b), some (vR 0 0), some (vR 11 0), some (vR 29 0), some (vI (4 * (t : Int))), d5, d6] [] S9) : K n 749 [some (vX b), some (vR 0 0), some (vR 11 0), some (vR 29 0), some (vI (4 * (t : Int))), c5, c6] [] S := by
  have M := MW.mk
  refine r_aload_n M dL_law_749 rfl ?_
  refine r_xload_n M dL_law_750 rfl ?_
  refine r_iload M dL_law_751 rfl ?_
  refine r_iconst M dL_law_753 ?_
  refine r_iadd M dL_law_754 ?_
  refine rw_sld MW (4 * t + 1) dL_law_755 (by omega) (by omega) ?_
  refine r_aload_n M dL_law_756 rfl ?_
  refine rk_callSH M (As := [vR 0 0, vI (xs (4 * t + 1)).toInt, vR 29 0]) (rst := []) dL_law_757 kh_125 rfl ⟨by omega, by omega, by omega⟩ (Nat.le_of_ble_eq_true rfl) (O t S (xs (4 * t + 1)).toInt (by omega) (rgX _) hI _ (fun k S1 hk9 hC2 => ?_))
  refine r_istore_5 M dL_law_760 (by decide) rfl ?_
  refine r_aload_n M dL_law_762 rfl ?_
  refine r_xload_n M dL_law_763 rfl ?_
  refine r_iload M dL_law_764 rfl ?_
  refine r_iconst M dL_law_766 ?_
  refine r_iadd M dL_law_767 ?_
  refine rw_sld MW (4 * t + 1) dL_law_768 (by omega) (by omega) ?_
  refine rk_callV1 M dL_law_769 ck_L_127 vk_X4_state ⟨by omega, by omega, by omega⟩ ⟨by decide, by decide, rfl⟩ (by decide) (Nat.le_of_ble_eq_true rfl) (hC2 _ (fun y S2 hy9 ht2 ho2 hI2 => ?_))
  refine r_istore_6 M dL_law_772 (by decide) rfl ?_
  refine r_aload_n M dL_law_774 rfl ?_
  refine rk_callV0 M dL_law_775 ck_L_86 vk_X4_thrown ⟨by omega, by omega, by omega⟩ ⟨by decide, by decide, rfl⟩ (by decide) (Nat.le_of_ble_eq_true rfl) (m_thrown ?_)
  refine r_iload M dL_law_778 rfl ?_
  refine r_icmp_eq M dL_law_780 (tgt := 785) rfl (by omega) (fun b780 => ?_) (fun b780 => by exact absurd ht2 b780)
  refine r_iload M dL_law_785 rfl ?_
  refine r_if_ne M dL_law_787 (tgt := 802) rfl (by omega) (fun b787 => ?_) (fun b787 => ?_)
  · refine r_goto M dL_law_802 (tgt := 1256) rfl ?_
    exact hk _ _ _ _ (by omega) hI2
  refine r_aload_n M dL_law_790 rfl ?_
  refine r_iconst M dL_law_791 ?_
  refine r_lald M dL_law_792 ?_
  refine r_iload M dL_law_793 rfl ?_
  refine r_i2l M dL_law_795 (by omega) ?_
  refine r_lcmp M dL_law_796 (by have h9 := ho2 (by omega); omega) ?_
  refine r_if_eq M dL_law_797 (tgt := 802) rfl (by split <;> (try split) <;> omega) (fun b797 => ?_) (fun b797 => by have h9 := ho2 (by omega); first | (exfalso; apply b797; rw [h9, if_neg (by omega), if_pos rfl]) | (exfalso; apply b797; rw [h9, if_neg (by omega), if_pos (by omega)]))
  refine r_goto M dL_law_802 (tgt := 1256) rfl ?_
  exact hk _ _ _ _ (by omega) hI2
theorem lc_12 (MW : MkW g b Ln xs 4096 K) (O : Op12 g Inv) (ht : 4 * t + 4 ≤ Ln) (hLn : Ln ≤ 2048) (hn : n ≤ 8 * t) (hI : Inv t S) (hk : ∀ (n9 : Nat) (S9 : St) (d5 d6 : Option AV), n9 ≤ n + 8 → Inv (t + 1) S9 → K n9 1256 [some (vX b), some (vR 0 0), some (vR 11 0), some (vR 29 0), some (vI (4 * (t : Int))), d5, d6] [] S9) : K n 805 [some (vX b), some (vR 0 0), some (vR 11 0), some (vR 29 0), some (vI (4 * (t : Int))), c5, c6] [] S := by
  have M := MW.mk
  refine r_aload_n M dL_law_805 rfl ?_
  refine r_xload_n M dL_law_806 rfl ?_
  refine r_iload M dL_law_807 rfl ?_
  refine r_iconst M dL_law_809 ?_
  refine r_iadd M dL_law_810 ?_
  refine rw_sld MW (4 * t + 1) dL_law_811 (by omega) (by omega) ?_
  refine r_aload_n M dL_law_812 rfl ?_
  refine rk_callSH M (As := [vR 0 0, vI (xs (4 * t + 1)).toInt, vR 29 0]) (rst := []) dL_law_813 kh_128 rfl ⟨by omega, by omega, by omega⟩ (Nat.le_of_ble_eq_true rfl) (O t S (xs (4 * t + 1)).toInt (by omega) (rgX _) hI _ (fun k S1 hk9 hC2 => ?_))
  refine r_istore_5 M dL_law_816 (by decide) rfl ?_
  refine r_aload_n M dL_law_818 rfl ?_
  refine r_xload_n M dL_law_819 rfl ?_
  refine r_iload M dL_law_820 rfl ?_
  refine r_iconst M dL_law_822 ?_
  refine r_iadd M dL_law_823 ?_
  refine rw_sld MW (4 * t + 1) dL_law_824 (by omega) (by omega) ?_
  refine rk_callV1 M dL_law_825 ck_L_130 vk_X4_margin ⟨by omega, by omega, by omega⟩ ⟨by decide, by decide, rfl⟩ (by decide) (Nat.le_of_ble_eq_true rfl) (hC2 _ (fun y S2 hy9 ht2 ho2 hI2 => ?_))
  refine r_istore_6 M dL_law_828 (by decide) rfl ?_
  refine r_aload_n M dL_law_830 rfl ?_
  refine rk_callV0 M dL_law_831 ck_L_86 vk_X4_thrown ⟨by omega, by omega, by omega⟩ ⟨by decide, by decide, rfl⟩ (by decide) (Nat.le_of_ble_eq_true rfl) (m_thrown ?_)
  refine r_iload M dL_law_834 rfl ?_
  refine r_icmp_eq M dL_law_836 (tgt := 841) rfl (by omega) (fun b836 => ?_) (fun b836 => by exact absurd ht2 b836)
  refine r_iload M dL_law_841 rfl ?_
  refine r_if_ne M dL_law_843 (tgt := 858) rfl (by omega) (fun b843 => ?_) (fun b843 => ?_)
  · refine r_goto M dL_law_858 (tgt := 1256) rfl ?_
    exact hk _ _ _ _ (by omega) hI2
  refine r_aload_n M dL_law_846 rfl ?_
  refine r_iconst M dL_law_847 ?_
  refine r_lald M dL_law_848 ?_
  refine r_iload M dL_law_849 rfl ?_
  refine r_i2l M dL_law_851 (by omega) ?_
  refine r_lcmp M dL_law_852 (by have h9 := ho2 (by omega); omega) ?_
  refine r_if_eq M dL_law_853 (tgt := 858) rfl (by split <;> (try split) <;> omega) (fun b853 => ?_) (fun b853 => by have h9 := ho2 (by omega); first | (exfalso; apply b853; rw [h9, if_neg (by omega), if_pos rfl]) | (exfalso; apply b853; rw [h9, if_neg (by omega), if_pos (by omega)]))
  refine r_goto M dL_law_858 (tgt := 1256) rfl ?_
  exact hk _ _ _ _ (by omega) hI2
theorem lc_13 (MW : MkW g b Ln xs 4096 K) (O : Op13 g Inv) (ht : 4 * t + 4 ≤ Ln) (hLn : Ln ≤ 2048) (hn : n ≤ 8 * t) (hI : Inv t S) (hk : ∀ (n9 : Nat) (S9 : St) (d5 d6 : Option AV), n9 ≤ n + 8 → Inv (t + 1) S9 → K n9 1256 [some (vX b), some (vR 0 0), some (vR 11 0), some (vR 29 0), some (vI (4 * (t : Int))), d5, d6] [] S9) : K n 861 [some (vX b), some (vR 0 0), some (vR 11 0), some (vR 29 0), some (vI (4 * (t : Int))), c5, c6] [] S := by
  have M := MW.mk
  refine r_aload_n M dL_law_861 rfl ?_
  refine r_xload_n M dL_law_862 rfl ?_
  refine r_iload M dL_law_863 rfl ?_
  refine r_iconst M dL_law_865 ?_
  refine r_iadd M dL_law_866 ?_
  refine rw_sld MW (4 * t + 1) dL_law_867 (by omega) (by omega) ?_
  refine r_aload_n M dL_law_868 rfl ?_
  refine rk_callSH M (As := [vR 0 0, vI (xs (4 * t + 1)).toInt, vR 29 0]) (rst := []) dL_law_869 kh_131 rfl ⟨by omega, by omega, by omega⟩ (Nat.le_of_ble_eq_true rfl) (O t S (xs (4 * t + 1)).toInt (by omega) (rgX _) hI _ (fun k S1 hk9 hC2 => ?_))
  refine r_istore_5 M dL_law_872 (by decide) rfl ?_
  refine r_aload_n M dL_law_874 rfl ?_
  refine r_xload_n M dL_law_875 rfl ?_
  refine r_iload M dL_law_876 rfl ?_
  refine r_iconst M dL_law_878 ?_
  refine r_iadd M dL_law_879 ?_
  refine rw_sld MW (4 * t + 1) dL_law_880 (by omega) (by omega) ?_
  refine rk_callV1 M dL_law_881 ck_L_133 vk_X4_share ⟨by omega, by omega, by omega⟩ ⟨by decide, by decide, rfl⟩ (by decide) (Nat.le_of_ble_eq_true rfl) (hC2 _ (fun y S2 hy9 ht2 ho2 hI2 => ?_))
  refine r_istore_6 M dL_law_884 (by decide) rfl ?_
  refine r_aload_n M dL_law_886 rfl ?_
  refine rk_callV0 M dL_law_887 ck_L_86 vk_X4_thrown ⟨by omega, by omega, by omega⟩ ⟨by decide, by decide, rfl⟩ (by decide) (Nat.le_of_ble_eq_true rfl) (m_thrown ?_)
  refine r_iload M dL_law_890 rfl ?_
  refine r_icmp_eq M dL_law_892 (tgt := 897) rfl (by omega) (fun b892 => ?_) (fun b892 => by exact absurd ht2 b892)
  refine r_iload M dL_law_897 rfl ?_
  refine r_if_ne M dL_law_899 (tgt := 914) rfl (by omega) (fun b899 => ?_) (fun b899 => ?_)
  · refine r_goto M dL_law_914 (tgt := 1256) rfl ?_
    exact hk _ _ _ _ (by omega) hI2
  refine r_aload_n M dL_law_902 rfl ?_
  refine r_iconst M dL_law_903 ?_
  refine r_lald M dL_law_904 ?_
  refine r_iload M dL_law_905 rfl ?_
  refine r_i2l M dL_law_907 (by omega) ?_
  refine r_lcmp M dL_law_908 (by have h9 := ho2 (by omega); omega) ?_
  refine r_if_eq M dL_law_909 (tgt := 914) rfl (by split <;> (try split) <;> omega) (fun b909 => ?_) (fun b909 => by have h9 := ho2 (by omega); first | (exfalso; apply b909; rw [h9, if_neg (by omega), if_pos rfl]) | (exfalso; apply b909; rw [h9, if_neg (by omega), if_pos (by omega)]))
  refine r_goto M dL_law_914 (tgt := 1256) rfl ?_
  exact hk _ _ _ _ (by omega) hI2
theorem lc_14 (MW : MkW g b Ln xs 4096 K) (O : Op14 g Inv) (ht : 4 * t + 4 ≤ Ln) (hLn : Ln ≤ 2048) (hn : n ≤ 8 * t) (hI : Inv t S) (hk : ∀ (n9 : Nat) (S9 : St) (d5 d6 : Option AV), n9 ≤ n + 8 → Inv (t + 1) S9 → K n9 1256 [some (vX b), some (vR 0 0), some (vR 11 0), some (vR 29 0), some (vI (4 * (t : Int))), d5, d6] [] S9) : K n 917 [some (vX b), some (vR 0 0), some (vR 11 0), some (vR 29 0), some (vI (4 * (t : Int))), c5, c6] [] S := by
  have M := MW.mk
  refine r_aload_n M dL_law_917 rfl ?_
  refine r_xload_n M dL_law_918 rfl ?_
  refine r_iload M dL_law_919 rfl ?_
  refine r_iconst M dL_law_921 ?_
  refine r_iadd M dL_law_922 ?_
  refine rw_sld MW (4 * t + 1) dL_law_923 (by omega) (by omega) ?_
  refine r_aload_n M dL_law_924 rfl ?_
  refine rk_callSH M (As := [vR 0 0, vI (xs (4 * t + 1)).toInt, vR 29 0]) (rst := []) dL_law_925 kh_134 rfl ⟨by omega, by omega, by omega⟩ (Nat.le_of_ble_eq_true rfl) (O t S (xs (4 * t + 1)).toInt (by omega) (rgX _) hI _ (fun k S1 hk9 hC2 => ?_))
  refine r_istore_5 M dL_law_928 (by decide) rfl ?_
  refine r_aload_n M dL_law_930 rfl ?_
  refine r_xload_n M dL_law_931 rfl ?_
  refine r_iload M dL_law_932 rfl ?_
  refine r_iconst M dL_law_934 ?_
  refine r_iadd M dL_law_935 ?_
  refine rw_sld MW (4 * t + 1) dL_law_936 (by omega) (by omega) ?_
  refine rk_callV1 M dL_law_937 ck_L_136 vk_X4_gain ⟨by omega, by omega, by omega⟩ ⟨by decide, by decide, rfl⟩ (by decide) (Nat.le_of_ble_eq_true rfl) (hC2 _ (fun y S2 hy9 ht2 ho2 hI2 => ?_))
  refine r_istore_6 M dL_law_940 (by decide) rfl ?_
  refine r_aload_n M dL_law_942 rfl ?_
  refine rk_callV0 M dL_law_943 ck_L_86 vk_X4_thrown ⟨by omega, by omega, by omega⟩ ⟨by decide, by decide, rfl⟩ (by decide) (Nat.le_of_ble_eq_true rfl) (m_thrown ?_)
  refine r_iload M dL_law_946 rfl ?_
  refine r_icmp_eq M dL_law_948 (tgt := 953) rfl (by omega) (fun b948 => ?_) (fun b948 => by exact absurd ht2 b948)
  refine r_iload M dL_law_953 rfl ?_
  refine r_if_ne M dL_law_955 (tgt := 970) rfl (by omega) (fun b955 => ?_) (fun b955 => ?_)
  · refine r_goto M dL_law_970 (tgt := 1256) rfl ?_
    exact hk _ _ _ _ (by omega) hI2
  refine r_aload_n M dL_law_958 rfl ?_
  refine r_iconst M dL_law_959 ?_
  refine r_lald M dL_law_960 ?_
  refine r_iload M dL_law_961 rfl ?_
  refine r_i2l M dL_law_963 (by omega) ?_
  refine r_lcmp M dL_law_964 (by have h9 := ho2 (by omega); omega) ?_
  refine r_if_eq M dL_law_965 (tgt := 970) rfl (by split <;> (try split) <;> omega) (fun b965 => ?_) (fun b965 => by have h9 := ho2 (by omega); first | (exfalso; apply b965; rw [h9, if_neg (by omega), if_pos rfl]) | (exfalso; apply b965; rw [h9, if_neg (by omega), if_pos (by omega)]))
  refine r_goto M dL_law_970 (tgt := 1256) rfl ?_
  exact hk _ _ _ _ (by omega) hI2
theorem lc_15 (MW : MkW g b Ln xs 4096 K) (O : Op15 g Inv) (ht : 4 * t + 4 ≤ Ln) (hLn : Ln ≤ 2048) (hn : n ≤ 8 * t) (hI : Inv t S) (hk : ∀ (n9 : Nat) (S9 : St) (d5 d6 : Option AV), n9 ≤ n + 8 → Inv (t + 1) S9 → K n9 1256 [some (vX b), some (vR 0 0), some (vR 11 0), some (vR 29 0), some (vI (4 * (t : Int))), d5, d6] [] S9) : K n 973 [some (vX b), some (vR 0 0), some (vR 11 0), some (vR 29 0), some (vI (4 * (t : Int))), c5, c6] [] S := by
  have M := MW.mk
  refine r_aload_n M dL_law_973 rfl ?_
  refine r_xload_n M dL_law_974 rfl ?_
  refine r_iload M dL_law_975 rfl ?_
  refine r_iconst M dL_law_977 ?_
  refine r_iadd M dL_law_978 ?_
  refine rw_sld MW (4 * t + 1) dL_law_979 (by omega) (by omega) ?_
  refine r_aload_n M dL_law_980 rfl ?_
  refine rk_callSH M (As := [vR 0 0, vI (xs (4 * t + 1)).toInt, vR 29 0]) (rst := []) dL_law_981 kh_137 rfl ⟨by omega, by omega, by omega⟩ (Nat.le_of_ble_eq_true rfl) (O t S (xs (4 * t + 1)).toInt (by omega) (rgX _) hI _ (fun k S1 hk9 hC2 => ?_))
  refine r_istore_5 M dL_law_984 (by decide) rfl ?_
  refine r_aload_n M dL_law_986 rfl ?_
  refine r_xload_n M dL_law_987 rfl ?_
  refine r_iload M dL_law_988 rfl ?_
  refine r_iconst M dL_law_990 ?_
  refine r_iadd M dL_law_991 ?_
  refine rw_sld MW (4 * t + 1) dL_law_992 (by omega) (by omega) ?_
  refine rk_callV1 M dL_law_993 ck_L_139 vk_X4_isJunior ⟨by omega, by omega, by omega⟩ ⟨by decide, by decide, rfl⟩ (by decide) (Nat.le_of_ble_eq_true rfl) (hC2 _ (fun y S2 hy9 ht2 ho2 hI2 => ?_))
  refine r_istore_6 M dL_law_996 (by decide) rfl ?_
  refine r_aload_n M dL_law_998 rfl ?_
  refine rk_callV0 M dL_law_999 ck_L_86 vk_X4_thrown ⟨by omega, by omega, by omega⟩ ⟨by decide, by decide, rfl⟩ (by decide) (Nat.le_of_ble_eq_true rfl) (m_thrown ?_)
  refine r_iload M dL_law_1002 rfl ?_
  refine r_icmp_eq M dL_law_1004 (tgt := 1009) rfl (by omega) (fun b1004 => ?_) (fun b1004 => by exact absurd ht2 b1004)
  refine r_iload M dL_law_1009 rfl ?_
  refine r_if_ne M dL_law_1011 (tgt := 1033) rfl (by omega) (fun b1011 => ?_) (fun b1011 => ?_)
  · refine r_goto M dL_law_1033 (tgt := 1256) rfl ?_
    exact hk _ _ _ _ (by omega) hI2
  refine r_aload_n M dL_law_1014 rfl ?_
  refine r_iconst M dL_law_1015 ?_
  refine r_lald M dL_law_1016 ?_
  refine r_iload M dL_law_1017 rfl ?_
  refine r_if_eq M dL_law_1019 (tgt := 1026) rfl (by omega) (fun b1019 => ?_) (fun b1019 => ?_)
  · refine r_lconst0 M dL_law_1026 ?_
    refine r_lcmp M dL_law_1027 (by have h9 := ho2 (by omega); omega) ?_
    refine r_if_eq M dL_law_1028 (tgt := 1033) rfl (by split <;> (try split) <;> omega) (fun b1028 => ?_) (fun b1028 => by have h9 := ho2 (by omega); first | (exfalso; apply b1028; rw [h9, if_neg (by omega), if_pos rfl]) | (exfalso; apply b1028; rw [h9, if_neg (by omega), if_pos (by omega)]))
    refine r_goto M dL_law_1033 (tgt := 1256) rfl ?_
    exact hk _ _ _ _ (by omega) hI2
  refine r_lconst1 M dL_law_1022 ?_
  refine r_goto M dL_law_1023 (tgt := 1027) rfl ?_
  refine r_lcmp M dL_law_1027 (by have h9 := ho2 (by omega); omega) ?_
  refine r_if_eq M dL_law_1028 (tgt := 1033) rfl (by split <;> (try split) <;> omega) (fun b1028 => ?_) (fun b1028 => by have h9 := ho2 (by omega); first | (exfalso; apply b1028; rw [h9, if_neg (by omega), if_pos rfl]) | (exfalso; apply b1028; rw [h9, if_neg (by omega), if_pos (by omega)]))
  refine r_goto M dL_law_1033 (tgt := 1256) rfl ?_
  exact hk _ _ _ _ (by omega) hI2
theorem lc_16 (MW : MkW g b Ln xs 4096 K) (O : Op16 g Inv) (ht : 4 * t + 4 ≤ Ln) (hLn : Ln ≤ 2048) (hn : n ≤ 8 * t) (hI : Inv t S) (hk : ∀ (n9 : Nat) (S9 : St) (d5 d6 : Option AV), n9 ≤ n + 8 → Inv (t + 1) S9 → K n9 1256 [some (vX b), some (vR 0 0), some (vR 11 0), some (vR 29 0), some (vI (4 * (t : Int))), d5, d6] [] S9) : K n 1036 [some (vX b), some (vR 0 0), some (vR 11 0), some (vR 29 0), some (vI (4 * (t : Int))), c5, c6] [] S := by
  have M := MW.mk
  refine r_aload_n M dL_law_1036 rfl ?_
  refine r_xload_n M dL_law_1037 rfl ?_
  refine r_iload M dL_law_1038 rfl ?_
  refine r_iconst M dL_law_1040 ?_
  refine r_iadd M dL_law_1041 ?_
  refine rw_sld MW (4 * t + 1) dL_law_1042 (by omega) (by omega) ?_
  refine r_aload_n M dL_law_1043 rfl ?_
  refine rk_callSH M (As := [vR 0 0, vI (xs (4 * t + 1)).toInt, vR 29 0]) (rst := []) dL_law_1044 kh_140 rfl ⟨by omega, by omega, by omega⟩ (Nat.le_of_ble_eq_true rfl) (O t S (xs (4 * t + 1)).toInt (by omega) (rgX _) hI _ (fun k S1 hk9 hC2 => ?_))
  refine r_istore_5 M dL_law_1047 (by decide) rfl ?_
  refine r_aload_n M dL_law_1049 rfl ?_
  refine r_xload_n M dL_law_1050 rfl ?_
  refine r_iload M dL_law_1051 rfl ?_
  refine r_iconst M dL_law_1053 ?_
  refine r_iadd M dL_law_1054 ?_
  refine rw_sld MW (4 * t + 1) dL_law_1055 (by omega) (by omega) ?_
  refine rk_callV1 M dL_law_1056 ck_L_142 vk_X4_assessed ⟨by omega, by omega, by omega⟩ ⟨by decide, by decide, rfl⟩ (by decide) (Nat.le_of_ble_eq_true rfl) (hC2 _ (fun y S2 hy9 ht2 ho2 hI2 => ?_))
  refine r_istore_6 M dL_law_1059 (by decide) rfl ?_
  refine r_aload_n M dL_law_1061 rfl ?_
  refine rk_callV0 M dL_law_1062 ck_L_86 vk_X4_thrown ⟨by omega, by omega, by omega⟩ ⟨by decide, by decide, rfl⟩ (by decide) (Nat.le_of_ble_eq_true rfl) (m_thrown ?_)
  refine r_iload M dL_law_1065 rfl ?_
  refine r_icmp_eq M dL_law_1067 (tgt := 1072) rfl (by omega) (fun b1067 => ?_) (fun b1067 => by exact absurd ht2 b1067)
  refine r_iload M dL_law_1072 rfl ?_
  refine r_if_ne M dL_law_1074 (tgt := 1089) rfl (by omega) (fun b1074 => ?_) (fun b1074 => ?_)
  · refine r_goto M dL_law_1089 (tgt := 1256) rfl ?_
    exact hk _ _ _ _ (by omega) hI2
  refine r_aload_n M dL_law_1077 rfl ?_
  refine r_iconst M dL_law_1078 ?_
  refine r_lald M dL_law_1079 ?_
  refine r_iload M dL_law_1080 rfl ?_
  refine r_i2l M dL_law_1082 (by omega) ?_
  refine r_lcmp M dL_law_1083 (by have h9 := ho2 (by omega); omega) ?_
  refine r_if_eq M dL_law_1084 (tgt := 1089) rfl (by split <;> (try split) <;> omega) (fun b1084 => ?_) (fun b1084 => by have h9 := ho2 (by omega); first | (exfalso; apply b1084; rw [h9, if_neg (by omega), if_pos rfl]) | (exfalso; apply b1084; rw [h9, if_neg (by omega), if_pos (by omega)]))
  refine r_goto M dL_law_1089 (tgt := 1256) rfl ?_
  exact hk _ _ _ _ (by omega) hI2
theorem lc_17 (MW : MkW g b Ln xs 4096 K) (O : Op17 g Inv) (ht : 4 * t + 4 ≤ Ln) (hLn : Ln ≤ 2048) (hn : n ≤ 8 * t) (hI : Inv t S) (hk : ∀ (n9 : Nat) (S9 : St) (d5 d6 : Option AV), n9 ≤ n + 8 → Inv (t + 1) S9 → K n9 1256 [some (vX b), some (vR 0 0), some (vR 11 0), some (vR 29 0), some (vI (4 * (t : Int))), d5, d6] [] S9) : K n 1092 [some (vX b), some (vR 0 0), some (vR 11 0), some (vR 29 0), some (vI (4 * (t : Int))), c5, c6] [] S := by
  have M := MW.mk
  refine r_aload_n M dL_law_1092 rfl ?_
  refine r_xload_n M dL_law_1093 rfl ?_
  refine r_iload M dL_law_1094 rfl ?_
  refine r_iconst M dL_law_1096 ?_
  refine r_iadd M dL_law_1097 ?_
  refine rw_sld MW (4 * t + 1) dL_law_1098 (by omega) (by omega) ?_
  refine r_aload_n M dL_law_1099 rfl ?_
  refine rk_callSH M (As := [vR 0 0, vI (xs (4 * t + 1)).toInt, vR 29 0]) (rst := []) dL_law_1100 kh_143 rfl ⟨by omega, by omega, by omega⟩ (Nat.le_of_ble_eq_true rfl) (O t S (xs (4 * t + 1)).toInt (by omega) (rgX _) hI _ (fun k S1 hk9 hC2 => ?_))
  refine r_istore_5 M dL_law_1103 (by decide) rfl ?_
  refine r_aload_n M dL_law_1105 rfl ?_
  refine r_xload_n M dL_law_1106 rfl ?_
  refine r_iload M dL_law_1107 rfl ?_
  refine r_iconst M dL_law_1109 ?_
  refine r_iadd M dL_law_1110 ?_
  refine rw_sld MW (4 * t + 1) dL_law_1111 (by omega) (by omega) ?_
  refine rk_callV1 M dL_law_1112 ck_L_145 vk_X4_clientLots ⟨by omega, by omega, by omega⟩ ⟨by decide, by decide, rfl⟩ (by decide) (Nat.le_of_ble_eq_true rfl) (hC2 _ (fun y S2 hy9 ht2 ho2 hI2 => ?_))
  refine r_istore_6 M dL_law_1115 (by decide) rfl ?_
  refine r_aload_n M dL_law_1117 rfl ?_
  refine rk_callV0 M dL_law_1118 ck_L_86 vk_X4_thrown ⟨by omega, by omega, by omega⟩ ⟨by decide, by decide, rfl⟩ (by decide) (Nat.le_of_ble_eq_true rfl) (m_thrown ?_)
  refine r_iload M dL_law_1121 rfl ?_
  refine r_icmp_eq M dL_law_1123 (tgt := 1128) rfl (by omega) (fun b1123 => ?_) (fun b1123 => by exact absurd ht2 b1123)
  refine r_iload M dL_law_1128 rfl ?_
  refine r_if_ne M dL_law_1130 (tgt := 1145) rfl (by omega) (fun b1130 => ?_) (fun b1130 => ?_)
  · refine r_goto M dL_law_1145 (tgt := 1256) rfl ?_
    exact hk _ _ _ _ (by omega) hI2
  refine r_aload_n M dL_law_1133 rfl ?_
  refine r_iconst M dL_law_1134 ?_
  refine r_lald M dL_law_1135 ?_
  refine r_iload M dL_law_1136 rfl ?_
  refine r_i2l M dL_law_1138 (by omega) ?_
  refine r_lcmp M dL_law_1139 (by have h9 := ho2 (by omega); omega) ?_
  refine r_if_eq M dL_law_1140 (tgt := 1145) rfl (by split <;> (try split) <;> omega) (fun b1140 => ?_) (fun b1140 => by have h9 := ho2 (by omega); first | (exfalso; apply b1140; rw [h9, if_neg (by omega), if_pos rfl]) | (exfalso; apply b1140; rw [h9, if_neg (by omega), if_pos (by omega)]))
  refine r_goto M dL_law_1145 (tgt := 1256) rfl ?_
  exact hk _ _ _ _ (by omega) hI2
theorem lc_18 (MW : MkW g b Ln xs 4096 K) (O : Op18 g Inv) (ht : 4 * t + 4 ≤ Ln) (hLn : Ln ≤ 2048) (hn : n ≤ 8 * t) (hI : Inv t S) (hk : ∀ (n9 : Nat) (S9 : St) (d5 d6 : Option AV), n9 ≤ n + 8 → Inv (t + 1) S9 → K n9 1256 [some (vX b), some (vR 0 0), some (vR 11 0), some (vR 29 0), some (vI (4 * (t : Int))), d5, d6] [] S9) : K n 1148 [some (vX b), some (vR 0 0), some (vR 11 0), some (vR 29 0), some (vI (4 * (t : Int))), c5, c6] [] S := by
  have M := MW.mk
  refine r_aload_n M dL_law_1148 rfl ?_
  refine r_xload_n M dL_law_1149 rfl ?_
  refine r_iload M dL_law_1150 rfl ?_
  refine r_iconst M dL_law_1152 ?_
  refine r_iadd M dL_law_1153 ?_
  refine rw_sld MW (4 * t + 1) dL_law_1154 (by omega) (by omega) ?_
  refine r_aload_n M dL_law_1155 rfl ?_
  refine rk_callSH M (As := [vR 0 0, vI (xs (4 * t + 1)).toInt, vR 29 0]) (rst := []) dL_law_1156 kh_146 rfl ⟨by omega, by omega, by omega⟩ (Nat.le_of_ble_eq_true rfl) (O t S (xs (4 * t + 1)).toInt (by omega) (rgX _) hI _ (fun k S1 hk9 hC2 => ?_))
  refine r_istore_5 M dL_law_1159 (by decide) rfl ?_
  refine r_aload_n M dL_law_1161 rfl ?_
  refine r_xload_n M dL_law_1162 rfl ?_
  refine r_iload M dL_law_1163 rfl ?_
  refine r_iconst M dL_law_1165 ?_
  refine r_iadd M dL_law_1166 ?_
  refine rw_sld MW (4 * t + 1) dL_law_1167 (by omega) (by omega) ?_
  refine rk_callV1 M dL_law_1168 ck_L_148 vk_X4_won ⟨by omega, by omega, by omega⟩ ⟨by decide, by decide, rfl⟩ (by decide) (Nat.le_of_ble_eq_true rfl) (hC2 _ (fun y S2 hy9 ht2 ho2 hI2 => ?_))
  refine r_istore_6 M dL_law_1171 (by decide) rfl ?_
  refine r_aload_n M dL_law_1173 rfl ?_
  refine rk_callV0 M dL_law_1174 ck_L_86 vk_X4_thrown ⟨by omega, by omega, by omega⟩ ⟨by decide, by decide, rfl⟩ (by decide) (Nat.le_of_ble_eq_true rfl) (m_thrown ?_)
  refine r_iload M dL_law_1177 rfl ?_
  refine r_icmp_eq M dL_law_1179 (tgt := 1184) rfl (by omega) (fun b1179 => ?_) (fun b1179 => by exact absurd ht2 b1179)
  refine r_iload M dL_law_1184 rfl ?_
  refine r_if_ne M dL_law_1186 (tgt := 1201) rfl (by omega) (fun b1186 => ?_) (fun b1186 => ?_)
  · refine r_goto M dL_law_1201 (tgt := 1256) rfl ?_
    exact hk _ _ _ _ (by omega) hI2
  refine r_aload_n M dL_law_1189 rfl ?_
  refine r_iconst M dL_law_1190 ?_
  refine r_lald M dL_law_1191 ?_
  refine r_iload M dL_law_1192 rfl ?_
  refine r_i2l M dL_law_1194 (by omega) ?_
  refine r_lcmp M dL_law_1195 (by have h9 := ho2 (by omega); omega) ?_
  refine r_if_eq M dL_law_1196 (tgt := 1201) rfl (by split <;> (try split) <;> omega) (fun b1196 => ?_) (fun b1196 => by have h9 := ho2 (by omega); first | (exfalso; apply b1196; rw [h9, if_neg (by omega), if_pos rfl]) | (exfalso; apply b1196; rw [h9, if_neg (by omega), if_pos (by omega)]))
  refine r_goto M dL_law_1201 (tgt := 1256) rfl ?_
  exact hk _ _ _ _ (by omega) hI2
theorem lc_19 (MW : MkW g b Ln xs 4096 K) (O : Op19 g Inv) (ht : 4 * t + 4 ≤ Ln) (hLn : Ln ≤ 2048) (hn : n ≤ 8 * t) (hI : Inv t S) (hk : ∀ (n9 : Nat) (S9 : St) (d5 d6 : Option AV), n9 ≤ n + 8 → Inv (t + 1) S9 → K n9 1256 [some (vX b), some (vR 0 0), some (vR 11 0), some (vR 29 0), some (vI (4 * (t : Int))), d5, d6] [] S9) : K n 1204 [some (vX b), some (vR 0 0), some (vR 11 0), some (vR 29 0), some (vI (4 * (t : Int))), c5, c6] [] S := by
  have M := MW.mk
  refine r_aload_n M dL_law_1204 rfl ?_
  refine rk_callV0 M dL_law_1205 ck_L_149 vk_X3_capital ⟨by omega, by omega, by omega⟩ ⟨by decide, by decide, rfl⟩ (by decide) (Nat.le_of_ble_eq_true rfl) (O t S (by omega) hI _ (fun k S1 hk9 hC2 => ?_))
  refine r_aload_n M dL_law_1208 rfl ?_
  refine rk_callV0 M dL_law_1209 ck_L_152 vk_X4_capital ⟨by omega, by omega, by omega⟩ ⟨by decide, by decide, rfl⟩ (by decide) (Nat.le_of_ble_eq_true rfl) (hC2 _ (fun S2 hI2 => ?_))
  refine r_icmp_eq M dL_law_1212 (tgt := 1256) rfl (by omega) (fun b1212 => ?_) (fun b1212 => by exact absurd rfl b1212)
  exact hk _ _ _ _ (by omega) hI2
theorem lc_20 (MW : MkW g b Ln xs 4096 K) (O : Op20 g Inv) (ht : 4 * t + 4 ≤ Ln) (hLn : Ln ≤ 2048) (hn : n ≤ 8 * t) (hI : Inv t S) (hk : ∀ (n9 : Nat) (S9 : St) (d5 d6 : Option AV), n9 ≤ n + 8 → Inv (t + 1) S9 → K n9 1256 [some (vX b), some (vR 0 0), some (vR 11 0), some (vR 29 0), some (vI (4 * (t : Int))), d5, d6] [] S9) : K n 1217 [some (vX b), some (vR 0 0), some (vR 11 0), some (vR 29 0), some (vI (4 * (t : Int))), c5, c6] [] S := by
  have M := MW.mk
  refine r_aload_n M dL_law_1217 rfl ?_
  refine rk_callV0 M dL_law_1218 ck_L_153 vk_X3_loss ⟨by omega, by omega, by omega⟩ ⟨by decide, by decide, rfl⟩ (by decide) (Nat.le_of_ble_eq_true rfl) (O t S (by omega) hI _ (fun k S1 hk9 hC2 => ?_))
  refine r_aload_n M dL_law_1221 rfl ?_
  refine rk_callV0 M dL_law_1222 ck_L_156 vk_X4_loss ⟨by omega, by omega, by omega⟩ ⟨by decide, by decide, rfl⟩ (by decide) (Nat.le_of_ble_eq_true rfl) (hC2 _ (fun S2 hI2 => ?_))
  refine r_icmp_eq M dL_law_1225 (tgt := 1256) rfl (by omega) (fun b1225 => ?_) (fun b1225 => by exact absurd rfl b1225)
  exact hk _ _ _ _ (by omega) hI2
theorem lc_21 (MW : MkW g b Ln xs 4096 K) (O : Op21 g Inv) (ht : 4 * t + 4 ≤ Ln) (hLn : Ln ≤ 2048) (hn : n ≤ 8 * t) (hI : Inv t S) (hk : ∀ (n9 : Nat) (S9 : St) (d5 d6 : Option AV), n9 ≤ n + 8 → Inv (t + 1) S9 → K n9 1256 [some (vX b), some (vR 0 0), some (vR 11 0), some (vR 29 0), some (vI (4 * (t : Int))), d5, d6] [] S9) : K n 1230 [some (vX b), some (vR 0 0), some (vR 11 0), some (vR 29 0), some (vI (4 * (t : Int))), c5, c6] [] S := by
  have M := MW.mk
  refine r_aload_n M dL_law_1230 rfl ?_
  refine rk_callV0 M dL_law_1231 ck_L_157 vk_X3_uncovered ⟨by omega, by omega, by omega⟩ ⟨by decide, by decide, rfl⟩ (by decide) (Nat.le_of_ble_eq_true rfl) (O t S (by omega) hI _ (fun k S1 hk9 hC2 => ?_))
  refine r_aload_n M dL_law_1234 rfl ?_
  refine rk_callV0 M dL_law_1235 ck_L_160 vk_X4_uncovered ⟨by omega, by omega, by omega⟩ ⟨by decide, by decide, rfl⟩ (by decide) (Nat.le_of_ble_eq_true rfl) (hC2 _ (fun S2 hI2 => ?_))
  refine r_icmp_eq M dL_law_1238 (tgt := 1256) rfl (by omega) (fun b1238 => ?_) (fun b1238 => by exact absurd rfl b1238)
  exact hk _ _ _ _ (by omega) hI2
theorem lc_22 (MW : MkW g b Ln xs 4096 K) (O : Op22 g Inv) (ht : 4 * t + 4 ≤ Ln) (hLn : Ln ≤ 2048) (hn : n ≤ 8 * t) (hI : Inv t S) (hk : ∀ (n9 : Nat) (S9 : St) (d5 d6 : Option AV), n9 ≤ n + 8 → Inv (t + 1) S9 → K n9 1256 [some (vX b), some (vR 0 0), some (vR 11 0), some (vR 29 0), some (vI (4 * (t : Int))), d5, d6] [] S9) : K n 1243 [some (vX b), some (vR 0 0), some (vR 11 0), some (vR 29 0), some (vI (4 * (t : Int))), c5, c6] [] S := by
  have M := MW.mk
  refine r_aload_n M dL_law_1243 rfl ?_
  refine rk_callV0 M dL_law_1244 ck_L_161 vk_X3_failing ⟨by omega, by omega, by omega⟩ ⟨by decide, by decide, rfl⟩ (by decide) (Nat.le_of_ble_eq_true rfl) (O t S (by omega) hI _ (fun k S1 hk9 hC2 => ?_))
  refine r_aload_n M dL_law_1247 rfl ?_
  refine rk_callV0 M dL_law_1248 ck_L_164 vk_X4_failing ⟨by omega, by omega, by omega⟩ ⟨by decide, by decide, rfl⟩ (by decide) (Nat.le_of_ble_eq_true rfl) (hC2 _ (fun S2 hI2 => ?_))
  refine r_icmp_eq M dL_law_1251 (tgt := 1256) rfl (by omega) (fun b1251 => ?_) (fun b1251 => by exact absurd rfl b1251)
  exact hk _ _ _ _ (by omega) hI2
end LAW
