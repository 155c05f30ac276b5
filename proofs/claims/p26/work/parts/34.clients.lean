/-! ===== what holds between the law's calls; clients ===== -/
def CL (S : St) : Prop := ∀ i, i < 10 → S 4 i 1 ≤ S 4 i 2 ∧ smN (S 5 i) (S 4 i 1).toNat = S 4 i 2 ∧ ∀ k : Nat, (k : Int) < S 4 i 1 → 1 ≤ S 5 i k
def RM (S : St) : Prop := ∀ k : Nat, k < 10 → (k : Int) < S 0 0 3 → S 12 0 k = S 4 k 6
def BD (t : Nat) (S : St) : Prop := (∀ i, i < 10 → 0 ≤ S 4 i 10 ∧ S 4 i 10 ≤ 2000000 * t) ∧ 0 ≤ S 0 0 6 ∧ S 0 0 6 ≤ 1000000 * t
def LB (t : Nat) (S : St) : Prop := CI S ∧ CL S ∧ Z8 S ∧ RM S ∧ BD t S
def LI (t : Nat) (S : St) : Prop := LB t S ∧ S 0 0 7 = -1
section CLI
variable {t : Nat} {S S' : St}
theorem LB.ci (h : LB t S) : CI S := h.1
theorem LB.cl (h : LB t S) : CL S := h.2.1
theorem LB.z8 (h : LB t S) : Z8 S := h.2.2.1
theorem LB.rm (h : LB t S) : RM S := h.2.2.2.1
theorem LB.bd (h : LB t S) : BD t S := h.2.2.2.2
theorem LB.ar (h : LB t S) (ht : t ≤ 20) : AR S := fun i hi => by
  have := h.bd.1 i hi
  omega
/-- the rest is as it was -/
theorem LB.gen (h : LB t S) (hci : CI S') (h3 : S' 0 0 3 = S 0 0 3) (h5 : S' 5 = S 5) (h4 : ∀ i, S' 4 i 1 = S 4 i 1 ∧ S' 4 i 2 = S 4 i 2 ∧ S' 4 i 6 = S 4 i 6 ∧ S' 4 i 10 = S 4 i 10) (h8 : Z8 S') (h12 : S' 12 = S 12) (h6 : S' 0 0 6 = S 0 0 6) : LB t S' := by
  refine ⟨hci, fun i hi => ?_, h8, fun k hk hc => ?_, fun i hi => ?_, ?_⟩
  · rw [h5, (h4 i).1, (h4 i).2.1]
    exact h.cl i hi
  · rw [h3] at hc
    rw [h12, (h4 k).2.2.1]
    exact h.rm k hk hc
  · rw [(h4 i).2.2.2]
    exact h.bd.1 i hi
  · rw [h6]
    exact h.bd.2
theorem Z8_cong (hZ : Z8 S) (h8 : S' 8 = S 8) (h3 : S' 0 0 3 = S 0 0 3) : Z8 S' := fun k hk hc => by
  rw [h3] at hc
  rw [h8]
  exact hZ k hk hc
theorem take_4 (S : St) (j : Nat) (v : Int) (i k : Nat) : takeS S j v 4 i k = if i = j ∧ k = 2 then S 4 j 2 + v else if i = j ∧ k = 1 then S 4 j 1 + 1 else S 4 i k := by
  simp [takeS, up3]
theorem take_5 (S : St) (j : Nat) (v : Int) (i k : Nat) : takeS S j v 5 i k = if i = j ∧ k = (S 4 j 1).toNat then v else S 5 i k := by
  simp [takeS, up3]
theorem take_t (S : St) (j : Nat) (v : Int) {t : Nat} (h4 : t ≠ 4) (h5 : t ≠ 5) : takeS S j v t = S t := by
  funext a b
  simp [takeS, up3, h4, h5]
theorem CI_take (hI : CI S) {j : Nat} {v : Int} (hv : 0 ≤ v ∧ v ≤ 20) (ht : taken S j v) : CI (takeS S j v) :=
  CI_set hI (take_t S j v (by omega) (by omega)) (take_t S j v (by omega) (by omega)) (take_t S j v (by omega) (by omega)) (by
    unfold smP
    rw [take_t S j v (t := 8) (by omega) (by omega), take_t S j v (t := 9) (by omega) (by omega), take_t S j v (t := 10) (by omega) (by omega)]
    exact hI.2.2.2.2.2.1) (takeS_MI ht hv hI.2.2.2.2.2.2)
theorem CL_take1 {i j : Nat} {v : Int} (h0 : 0 ≤ S 4 i 1) (h : S 4 i 1 ≤ S 4 i 2 ∧ smN (S 5 i) (S 4 i 1).toNat = S 4 i 2 ∧ ∀ k : Nat, (k : Int) < S 4 i 1 → 1 ≤ S 5 i k) (hv : 1 ≤ v) : takeS S j v 4 i 1 ≤ takeS S j v 4 i 2 ∧ smN (takeS S j v 5 i) (takeS S j v 4 i 1).toNat = takeS S j v 4 i 2 ∧ ∀ k : Nat, (k : Int) < takeS S j v 4 i 1 → 1 ≤ takeS S j v 5 i k := by
  by_cases e : i = j
  · subst e
    have e1 : takeS S i v 4 i 1 = S 4 i 1 + 1 := by rw [take_4, if_neg (by omega), if_pos ⟨rfl, rfl⟩]
    have e2 : takeS S i v 4 i 2 = S 4 i 2 + v := by rw [take_4, if_pos ⟨rfl, rfl⟩]
    rw [e1, e2]
    have et : (S 4 i 1 + 1).toNat = (S 4 i 1).toNat + 1 := by omega
    refine ⟨by omega, ?_, fun k hk => ?_⟩
    · rw [et]
      show smN (takeS S i v 5 i) (S 4 i 1).toNat + takeS S i v 5 i (S 4 i 1).toNat = _
      rw [take_5, if_pos ⟨rfl, rfl⟩, smN_cong (f := takeS S i v 5 i) (h := S 5 i) (fun k hk => by rw [take_5, if_neg (by omega)]), h.2.1]
    · rw [take_5]
      by_cases q : k = (S 4 i 1).toNat
      · rw [if_pos ⟨rfl, q⟩]
        exact hv
      · rw [if_neg (fun z => q z.2)]
        exact h.2.2 k (by omega)
  · have e4 : ∀ k, takeS S j v 4 i k = S 4 i k := fun k => by rw [take_4, if_neg (fun z => e z.1), if_neg (fun z => e z.1)]
    have e5 : takeS S j v 5 i = S 5 i := by
      funext k
      rw [take_5, if_neg (fun z => e z.1)]
    rw [e4, e4, e5]
    exact h
theorem LB.take (h : LB t S) {j : Nat} {v : Int} (hv : 1 ≤ v ∧ v ≤ 20) (ht : taken S j v) : LB t (takeS S j v) := by
  have e0 : takeS S j v 0 = S 0 := take_t S j v (by omega) (by omega)
  refine ⟨CI_take h.ci (by omega) ht, fun i hi => CL_take1 (by have := h.ci.mem hi; unfold MI at this; omega) (h.cl i hi) hv.1, Z8_cong h.z8 (take_t S j v (by omega) (by omega)) (by rw [e0]), fun k hk hc => ?_, fun i hi => ?_, ?_⟩
  · rw [e0] at hc
    rw [take_t S j v (t := 12) (by omega) (by omega), take_4, if_neg (by omega), if_neg (by omega)]
    exact h.rm k hk hc
  · rw [take_4, if_neg (by omega), if_neg (by omega)]
    exact h.bd.1 i hi
  · rw [e0]
    exact h.bd.2
end CLI
section XClients
variable {g : Gl} {S : St} {Ret : Option AV → St → Prop} {Thr : String → St → Prop} {t : Nat}
theorem cs_addClient {l : Nat} {v w : Int} (hI : CI S) (hl : (l : Int) < S 0 0 3) (hv : 1 ≤ v ∧ v ≤ 20) (ha : actv S l) (ht : taken S l v) (hw : S 4 l 6 - (S 4 l 2 + v) = w) (h : Ret (some (vI w)) (takeS S l v)) : Cn g yX3_addClient cX3_addClient 4 (some .int) 7 112 4 [vR 0 0, vI (l : Int), vI v] S Ret Thr := by
  have hc := hI.cnt
  refine cn_addClient (by omega) (by omega) hI (fun j ej hj hjc q2 qa qt => ?_) (fun q => absurd ⟨by omega, hl⟩ q) (fun _ q => absurd hv q) (fun j ej hj hjc q2 q => ?_)
  · have e : j = l := by omega
    subst e
    subst hw
    exact h
  · have e : j = l := by omega
    subst e
    exact absurd ⟨ha, ht⟩ q
theorem cn_clients {x y : Int} (hL : LI t S) (h : ∀ S', LI t S' → S' 0 0 3 = S 0 0 3 → Ret (some (vI 1)) S') : Cn g yL_clients cL_clients 7 (some .boolean) 8 135 60 [vR 0 0, vI x, vI y, vR 12 0] S Ret Thr := by
  refine enter (L := [some (vR 0 0), some (vI x), some (vI y), some (vR 12 0), none, none, none]) (by decide +kernel) (Nat.le_of_ble_eq_true rfl) rfl (fun K MM => ?_)
  have M := MM.mk
  have hcl := cN_le hL.1.ci
  have hce := cN_eq hL.1.ci
  refine r_iconst M dL_clients_0 ?_
  refine r_istore_4 M dL_clients_1 (by decide) rfl ?_
  refine fz (P := fun l => ∀ S', LI t S' → S' 0 0 3 = S 0 0 3 → ∀ c5 c6, K (6 * l) 3 [some (vR 0 0), some (vI x), some (vI y), some (vR 12 0), some (vI (l : Int)), c5, c6] [] S') (m := cN S) ?_ ?_ S hL rfl _ _
  · intro S' hL' h3 c5 c6
    refine r_iload M dL_clients_3 rfl ?_
    refine r_aload_n M dL_clients_5 rfl ?_
    refine r_callV0 MM dL_clients_6 ck_L_14 vk_X3_members ⟨by omega, by omega, by omega⟩ ⟨by decide, by decide, rfl⟩ (by decide) (Nat.le_of_ble_eq_true rfl) (cs_members h3 ?_)
    refine r_icmp_ge M dL_clients_9 (tgt := 93) rfl (by omega) (fun b9 => ?_) (fun b9 => by omega)
    refine r_iconst M dL_clients_93 ?_
    refine r_zret MM dL_clients_94 (by omega) ?_
    exact h S' hL' h3
  · intro l hl hP S' hL' h3 c5 c6
    have hI := hL'.1.ci
    have hm := hI.mem (show l < 10 by omega)
    unfold MI at hm
    have hlc : (l : Int) < S' 0 0 3 := by omega
    have hkl := hL'.1.cl l (by omega)
    refine r_iload M dL_clients_3 rfl ?_
    refine r_aload_n M dL_clients_5 rfl ?_
    refine r_callV0 MM dL_clients_6 ck_L_14 vk_X3_members ⟨by omega, by omega, by omega⟩ ⟨by decide, by decide, rfl⟩ (by decide) (Nat.le_of_ble_eq_true rfl) (cs_members h3 ?_)
    refine r_icmp_ge M dL_clients_9 (tgt := 93) rfl (by omega) (fun b9 => by omega) (fun b9 => ?_)
    refine r_iconst M dL_clients_12 ?_
    refine r_iload_n M dL_clients_13 rfl ?_
    refine r_bipush M dL_clients_14 rfl ?_
    refine r_iload M dL_clients_16 rfl ?_
    refine r_imul M dL_clients_18 ?_
    refine r_iadd M dL_clients_19 ?_
    refine r_iconst M dL_clients_20 ?_
    refine r_ishr M dL_clients_21 (fun x21 hx21 => ?_)
    refine r_bipush M dL_clients_22 rfl ?_
    refine r_callS2 MM dL_clients_24 sl_L_55 st_L_at rfl ck_L_55 ⟨by omega, by omega, by omega⟩ (Nat.le_of_ble_eq_true rfl) (cn_at (by omega) (fun z hz => ?_))
    refine r_iadd M dL_clients_27 ?_
    refine r_istore_5 M dL_clients_28 (by decide) rfl ?_
    refine r_aload_n M dL_clients_30 rfl ?_
    refine r_iload M dL_clients_31 rfl ?_
    refine r_ialdV M (_) dL_clients_33 ⟨rfl, by decide⟩ (by decide) rfl (show (_ : Nat) < 10 by omega) (Nat.le_of_ble_eq_true rfl) (S' 4 l 6) (by exact hL'.1.rm l (by omega) hlc) ?_
    refine r_aload_n M dL_clients_34 rfl ?_
    refine r_iload M dL_clients_35 rfl ?_
    refine r_callV1 MM dL_clients_37 ck_L_48 vk_X3_clientLots ⟨by omega, by omega, by omega⟩ ⟨by decide, by decide, rfl⟩ (by decide) (Nat.le_of_ble_eq_true rfl) (cs_clientLots hI hlc rfl ?_)
    refine r_isub M dL_clients_40 ?_
    refine r_iload M dL_clients_41 rfl ?_
    refine r_isub M dL_clients_43 ?_
    refine r_istore_6 M dL_clients_44 (by decide) rfl ?_
    refine r_aload_n M dL_clients_46 rfl ?_
    refine r_iload M dL_clients_47 rfl ?_
    refine r_callV1 MM dL_clients_49 ck_L_33 vk_X3_state ⟨by omega, by omega, by omega⟩ ⟨by decide, by decide, rfl⟩ (by decide) (Nat.le_of_ble_eq_true rfl) (cs_state hI hlc rfl ?_)
    refine r_iconst M dL_clients_52 ?_
    refine r_icmp_ge M dL_clients_53 (tgt := 87) rfl (by omega) (fun b53 => ?_) (fun b53 => ?_)
    · refine r_iinc_4 M (_) dL_clients_87 rfl (by decide) rfl ?_
      refine r_goto M dL_clients_90 (tgt := 3) rfl ?_
      first | exact k_w M (by omega) (by omega) (hP S' hL' h3 _ _) | exact k_w M (by omega) (by omega) (hP _ ⟨hL'.1.take (by omega) ⟨by omega, by omega⟩, by rw [take_t _ _ _ (by omega) (by omega)]; exact hL'.2⟩ (by rw [take_t _ _ _ (by omega) (by omega)]; exact h3) _ _)
    refine r_iload M dL_clients_56 rfl ?_
    refine r_if_lt M dL_clients_58 (tgt := 87) rfl (by omega) (fun b58 => ?_) (fun b58 => ?_)
    · refine r_iinc_4 M (_) dL_clients_87 rfl (by decide) rfl ?_
      refine r_goto M dL_clients_90 (tgt := 3) rfl ?_
      first | exact k_w M (by omega) (by omega) (hP S' hL' h3 _ _) | exact k_w M (by omega) (by omega) (hP _ ⟨hL'.1.take (by omega) ⟨by omega, by omega⟩, by rw [take_t _ _ _ (by omega) (by omega)]; exact hL'.2⟩ (by rw [take_t _ _ _ (by omega) (by omega)]; exact h3) _ _)
    refine r_iload_n M dL_clients_61 rfl ?_
    refine r_iload M dL_clients_62 rfl ?_
    refine r_ishr M dL_clients_64 (fun x64 hx64 => ?_)
    refine r_iconst M dL_clients_65 ?_
    refine r_callS2 MM dL_clients_66 sl_L_55 st_L_at rfl ck_L_55 ⟨by omega, by omega, by omega⟩ (Nat.le_of_ble_eq_true rfl) (cn_at (by omega) (fun z2 hz2 => ?_))
    refine r_if_ne M dL_clients_69 (tgt := 87) rfl (by omega) (fun b69 => ?_) (fun b69 => ?_)
    · refine r_iinc_4 M (_) dL_clients_87 rfl (by decide) rfl ?_
      refine r_goto M dL_clients_90 (tgt := 3) rfl ?_
      first | exact k_w M (by omega) (by omega) (hP S' hL' h3 _ _) | exact k_w M (by omega) (by omega) (hP _ ⟨hL'.1.take (by omega) ⟨by omega, by omega⟩, by rw [take_t _ _ _ (by omega) (by omega)]; exact hL'.2⟩ (by rw [take_t _ _ _ (by omega) (by omega)]; exact h3) _ _)
    refine r_aload_n M dL_clients_72 rfl ?_
    refine r_iload M dL_clients_73 rfl ?_
    refine r_iload M dL_clients_75 rfl ?_
    refine r_callV2 MM dL_clients_77 ck_L_60 vk_X3_addClient ⟨by omega, by omega, by omega⟩ ⟨by decide, by decide, rfl⟩ (by decide) (Nat.le_of_ble_eq_true rfl) (cs_addClient hI hlc (by omega) (by unfold actv; omega) ⟨by omega, by omega⟩ (w := S' 4 l 6 - S' 4 l 2 - (1 + z)) (by omega) ?_)
    refine r_iload M dL_clients_80 rfl ?_
    refine r_icmp_eq M dL_clients_82 (tgt := 87) rfl (by omega) (fun b82 => ?_) (fun b82 => by omega)
    refine r_iinc_4 M (_) dL_clients_87 rfl (by decide) rfl ?_
    refine r_goto M dL_clients_90 (tgt := 3) rfl ?_
    first | exact k_w M (by omega) (by omega) (hP S' hL' h3 _ _) | exact k_w M (by omega) (by omega) (hP _ ⟨hL'.1.take (by omega) ⟨by omega, by omega⟩, by rw [take_t _ _ _ (by omega) (by omega)]; exact hL'.2⟩ (by rw [take_t _ _ _ (by omega) (by omega)]; exact h3) _ _)
end XClients
