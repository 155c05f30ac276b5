/-! ===== a DefaultFund is made ===== -/
def fs3 : List Value := [.null, .null, .null, .int 0, .int 0, .int 0, .int 0, .int 0]
def mm (g : Gl) (am ac : Nat → Nat) : Nat → va_W
  | 0 => []
  | n + 1 => mm g am ac n ++ W1 g (am n) (ac n)
theorem mm_up (g : Gl) (am ac : Nat → Nat) (n q q2 : Nat) : ∀ k, k ≤ n → mm g (va_up am n q) (va_up ac n q2) k = mm g am ac k
  | 0, _ => rfl
  | k + 1, h => by
    show mm g (va_up am n q) (va_up ac n q2) k ++ W1 g (va_up am n q k) (va_up ac n q2 k) = mm g am ac k ++ W1 g (am k) (ac k)
    rw [mm_up g am ac n q q2 k (by omega), va_up_ne am q (by omega), va_up_ne ac q2 (by omega)]
theorem mm_push (g : Gl) (am ac : Nat → Nat) (n q q2 : Nat) : mm g (va_up am n q) (va_up ac n q2) (n + 1) = mm g am ac n ++ W1 g q q2 := by
  show mm g (va_up am n q) (va_up ac n q2) n ++ W1 g (va_up am n q n) (va_up ac n q2 n) = _
  rw [mm_up g am ac n q q2 n (Nat.le_refl _), va_up_self, va_up_self]
def fM (am : Nat → Nat) (n : Nat) : Nat → Option Nat := fun k => if k < n then some (am k) else none
theorem fM_push (am : Nat → Nat) (n q : Nat) : va_up (fM am n) n (some q) = fM (va_up am n q) (n + 1) := by
  funext k
  unfold fM
  by_cases h : k = n
  · subst h
    rw [va_up_self, va_up_self, if_pos (by omega)]
  · rw [va_up_ne _ _ h, va_up_ne _ _ h]
    by_cases h2 : k < n
    · rw [if_pos h2, if_pos (by omega)]
    · rw [if_neg h2, if_neg (by omega)]
def o3 (q1 q2 q3 : Nat) : va_E := .inr (3, [.ref q1, .ref q2, .ref q3, .int 0, .int 0, .int 0, .int 0, .int (-1)])
def W3 (g : Gl) (h0 : Nat) (a : Nat → Nat → Nat) : va_W := (h0, o3 (a 1 0) (a 2 0) (a 3 0)) :: (a 1 0, .inl (g.2.2.2 1, 10, qrf fun k => some (a 4 k))) :: ((W0 g (a 2 0) (a 6 0, a 7) ++ W2 g (a 3 0) (a 8 0, a 9 0, a 10 0)) ++ mm g (a 4) (a 5) 10)
def adF (q1 q2 q3 : Nat) (am ac : Nat → Nat) (u0 : Nat × (Nat → Nat)) (u2 : Nat × Nat × Nat) : Nat → Nat → Nat := fun t i => match t with
  | 1 => q1
  | 2 => q2
  | 3 => q3
  | 4 => am i
  | 5 => ac i
  | 6 => u0.1
  | 7 => u0.2 i
  | 8 => u2.1
  | 9 => u2.2.1
  | _ => u2.2.2
theorem ck_X3_17 : Ck RX3 17 yX0_init cX0_init 1 none 0 := ⟨Or.inr ⟨"DefaultFund", nw_at 57 (by decide +kernel) rfl⟩, wt_at 35 (by decide +kernel) rfl, wt_at 59 (by decide +kernel) rfl, ⟨by decide +kernel, by decide +kernel⟩, by decide +kernel⟩
theorem ck_X3_24 : Ck RX3 24 yX2_init cX2_init 1 none 0 := ⟨Or.inr ⟨"DefaultFund", nw_at 74 (by decide +kernel) rfl⟩, wt_at 36 (by decide +kernel) rfl, wt_at 76 (by decide +kernel) rfl, ⟨by decide +kernel, by decide +kernel⟩, by decide +kernel⟩
theorem ck_X3_45 : Ck RX3 45 yX1_init cX1_init 1 none 0 := ⟨Or.inr ⟨"DefaultFund", nw_at 89 (by decide +kernel) rfl⟩, wt_at 37 (by decide +kernel) rfl, wt_at 91 (by decide +kernel) rfl, ⟨by decide +kernel, by decide +kernel⟩, by decide +kernel⟩
set_option maxRecDepth 20000 in
/-- a DefaultFund with all its rows -/
theorem c_X3_init (g : Gl) : MetI g yX3_init cX3_init 2 2 40 37 2385 3 fs3 (W3 g) := by
  refine enterI rfl rfl (by decide) (fun h0 K M => ?_)
  have loop : ∀ (q1 q2 q3 : Nat) (u0 : Nat × (Nat → Nat)) (u2 : Nat × Nat × Nat) (r n : Nat), n + r = 10 → ∀ am ac : Nat → Nat, K (17 + 2 * n) (1255 + 113 * n) 62 [(1, .int (nI n)), (0, .ref h0)] [] ((h0, o3 q1 q2 q3) :: (q1, .inl (g.2.2.2 1, 10, qrf (fM am n))) :: ((W0 g q2 u0 ++ W2 g q3 u2) ++ mm g am ac n)) := by
    intro q1 q2 q3 u0 u2 r
    induction r with
    | zero =>
      intro n hn am ac
      have hn9 : n = 10 := by omega
      subst hn9
      refine i_iload M.mk 0 dX3_init_62 rfl rfl ?_
      refine i_bipush M.mk 10 dX3_init_63 rfl ?_
      refine i_icmp_ge M.mk 87 dX3_init_65 (by decide) (fun _ => ?_) (fun q => absurd (nI_le (Nat.le_refl 10) (by decide)) q)
      refine i_ext M.mk (f' := fun k => some (am k)) (fun i hi => if_pos hi) ?_
      exact i_ret M (adF q1 q2 q3 am ac u0 u2) dX3_init_87 rfl ⟨by decide, by decide⟩
    | succ r ih =>
      intro n hn am ac
      have hn9 : n < 10 := by omega
      refine i_iload M.mk 0 dX3_init_62 rfl rfl ?_
      refine i_bipush M.mk 10 dX3_init_63 rfl ?_
      refine i_icmp_ge M.mk 87 dX3_init_65 (by decide) (fun q => absurd q (nI_ge hn9 (by decide))) (fun _ => ?_)
      refine i_aload M.mk 1 dX3_init_68 rfl rfl ?_
      refine i_get M.mk (k := 0) dX3_init_69 rfl inW3 (by decide) (wt_at 145 (by decide +kernel) rfl) rfl rfl ?_
      refine i_iload M.mk 0 dX3_init_72 rfl rfl ?_
      refine i_new M.mk (fs := fs1) dX3_init_73 (ci := 1) rfl inW1 tyX1_ok (wt_at 53 (by decide +kernel) rfl) (wt_at 88 (by decide +kernel) rfl) (wt_at 37 (by decide +kernel) rfl) (by decide +kernel) ⟨by omega, by omega⟩ (fun q => ?_)
      refine i_dup M.mk dX3_init_76 ?_
      refine i_init M.mk dX3_init_77 ck_X3_45 ⟨rfl, wt_at 90 (by decide +kernel) rfl⟩ ⟨by decide, by decide, by omega, by omega⟩ (Nat.le_of_ble_eq_true rfl) (c_X1_init g) (fun q9 => ?_)
      have hcl : (nI n).toNatClampNeg = n := nI_clamp (by omega)
      have k : K (17 + 2 * n + 1 + 1) (1255 + 113 * n + 13 + 100) 80 [(1, .int (nI n)), (0, .ref h0)] [.ref q, .int (nI n), .ref q1] ((h0, o3 q1 q2 q3) :: (q1, .inl (g.2.2.2 1, 10, qrf (fM am n))) :: (((W0 g q2 u0 ++ W2 g q3 u2) ++ mm g am ac n) ++ W1 g q q9)) := by
        refine i_ast M.mk ((W0 g q2 u0 ++ W2 g q3 u2) ++ mm g am ac n).length dX3_init_80 (vs := [.ref q9, .int 0, .int 0, .int 0, .int 0, .int 0, .int 0, .int 0, .int 0, .int 0, .int 0, .int 0, .int 0]) (by rw [List.getElem?_append_right (Nat.le_refl _), Nat.sub_self]; rfl) (vp_in_nI hn9 (by decide)) ?_
        refine i_iinc M.mk (v := nI (n + 1)) 0 [(1, .int (nI (n + 1))), (0, .ref h0)] dX3_init_81 rfl (nI_1 n) (by decide) rfl ?_
        refine i_goto M.mk 62 dX3_init_84 (by decide) ?_
        have e1 : va_up (fM am n) (nI n).toNatClampNeg (some q) = fM (va_up am n q) (n + 1) := by rw [hcl]; exact fM_push am n q
        have e2 : ((W0 g q2 u0 ++ W2 g q3 u2) ++ mm g am ac n) ++ W1 g q q9 = (W0 g q2 u0 ++ W2 g q3 u2) ++ mm g (va_up am n q) (va_up ac n q9) (n + 1) := by rw [mm_push, List.append_assoc]
        rw [e1, e2]
        exact i_widen M.mk (by omega) (by omega) (ih (n + 1) (by omega) (va_up am n q) (va_up ac n q9))
      exact k
  refine i_aload M.mk 0 dX3_init_0 rfl rfl ?_
  refine i_obj M.mk dX3_init_1 (wt_at 50 (by decide +kernel) rfl) (wt_at 51 (by decide +kernel) rfl) (wt_at 52 (by decide +kernel) rfl) ⟨by decide, by decide⟩ ?_
  refine i_aload M.mk 0 dX3_init_4 rfl rfl ?_
  refine i_bipush M.mk 10 dX3_init_5 rfl ?_
  refine i_newq M.mk 10 dX3_init_7 (wt_at 53 (by decide +kernel) rfl) rfl (by decide) (by decide) ⟨by decide, by decide⟩ (fun q1 => ?_)
  show K 1 10 10 [(0, .ref h0)] [.ref q1, .ref h0] ((h0, .inr (3, [.null, .null, .null, .int 0, .int 0, .int 0, .int 0, .int 0])) :: [(q1, .inl (g.2.2.2 1, 10, qrf fun _ => none))])
  refine i_putF M.mk (k := 0) dX3_init_10 rfl inW3 tyX3_ok nmX3 (by decide) (wt_at 145 (by decide +kernel) rfl) rfl rfl rfl rfl rfl (Nat.le_of_ble_eq_true rfl) rfl ?_
  refine i_aload M.mk 0 dX3_init_13 rfl rfl ?_
  refine i_new M.mk (fs := fs0) dX3_init_14 (ci := 0) rfl inW0 tyX0_ok (wt_at 55 (by decide +kernel) rfl) (wt_at 56 (by decide +kernel) rfl) (wt_at 35 (by decide +kernel) rfl) (by decide +kernel) ⟨by decide, by decide⟩ (fun q2 => ?_)
  refine i_dup M.mk dX3_init_17 ?_
  refine i_init M.mk dX3_init_18 ck_X3_17 ⟨rfl, wt_at 58 (by decide +kernel) rfl⟩ ⟨by decide, by decide, by decide, by decide⟩ (Nat.le_of_ble_eq_true rfl) (c_X0_init g) (fun u0 => ?_)
  show K 13 1222 21 [(0, .ref h0)] [.ref q2, .ref h0] ((h0, .inr (3, [.ref q1, .null, .null, .int 0, .int 0, .int 0, .int 0, .int 0])) :: (q1, .inl (g.2.2.2 1, 10, qrf fun _ => none)) :: W0 g q2 u0)
  refine i_putF M.mk (k := 1) dX3_init_21 rfl inW3 tyX3_ok nmX3 (by decide) (wt_at 146 (by decide +kernel) rfl) rfl rfl rfl rfl rfl (Nat.le_of_ble_eq_true rfl) rfl ?_
  refine i_aload M.mk 0 dX3_init_24 rfl rfl ?_
  refine i_new M.mk (fs := [.null, .null, .null]) dX3_init_25 (ci := 2) rfl inW2 tyX2_ok (wt_at 72 (by decide +kernel) rfl) (wt_at 73 (by decide +kernel) rfl) (wt_at 36 (by decide +kernel) rfl) (by decide +kernel) ⟨by decide, by decide⟩ (fun q3 => ?_)
  refine i_dup M.mk dX3_init_28 ?_
  refine i_init M.mk dX3_init_29 ck_X3_24 ⟨rfl, wt_at 75 (by decide +kernel) rfl⟩ ⟨by decide, by decide, by decide, by decide⟩ (Nat.le_of_ble_eq_true rfl) (c_X2_init g) (fun u2 => ?_)
  show K 17 1255 32 [(0, .ref h0)] [.ref q3, .ref h0] ((h0, .inr (3, [.ref q1, .ref q2, .null, .int 0, .int 0, .int 0, .int 0, .int 0])) :: ((q1, .inl (g.2.2.2 1, 10, qrf fun _ => none)) :: (W0 g q2 u0 ++ W2 g q3 u2)))
  refine i_putF M.mk (k := 2) dX3_init_32 rfl inW3 tyX3_ok nmX3 (by decide) (wt_at 147 (by decide +kernel) rfl) rfl rfl rfl rfl rfl (Nat.le_of_ble_eq_true rfl) rfl ?_
  refine i_aload M.mk 0 dX3_init_35 rfl rfl ?_
  refine i_iconst M.mk 0 dX3_init_36 rfl ?_
  refine i_put M.mk (k := 3) dX3_init_37 rfl inW3 tyX3_ok nmX3 (by decide) (wt_at 148 (by decide +kernel) rfl) rfl rfl rfl rfl rfl (Nat.le_of_ble_eq_true rfl) rfl ?_
  refine i_aload M.mk 0 dX3_init_40 rfl rfl ?_
  refine i_iconst M.mk 0 dX3_init_41 rfl ?_
  refine i_put M.mk (k := 4) dX3_init_42 rfl inW3 tyX3_ok nmX3 (by decide) (wt_at 149 (by decide +kernel) rfl) rfl rfl rfl rfl rfl (Nat.le_of_ble_eq_true rfl) rfl ?_
  refine i_aload M.mk 0 dX3_init_45 rfl rfl ?_
  refine i_iconst M.mk 0 dX3_init_46 rfl ?_
  refine i_put M.mk (k := 5) dX3_init_47 rfl inW3 tyX3_ok nmX3 (by decide) (wt_at 150 (by decide +kernel) rfl) rfl rfl rfl rfl rfl (Nat.le_of_ble_eq_true rfl) rfl ?_
  refine i_aload M.mk 0 dX3_init_50 rfl rfl ?_
  refine i_iconst M.mk 0 dX3_init_51 rfl ?_
  refine i_put M.mk (k := 6) dX3_init_52 rfl inW3 tyX3_ok nmX3 (by decide) (wt_at 151 (by decide +kernel) rfl) rfl rfl rfl rfl rfl (Nat.le_of_ble_eq_true rfl) rfl ?_
  refine i_aload M.mk 0 dX3_init_55 rfl rfl ?_
  refine i_iconst M.mk (-1) dX3_init_56 rfl ?_
  refine i_put M.mk (k := 7) dX3_init_57 rfl inW3 tyX3_ok nmX3 (by decide) (wt_at 152 (by decide +kernel) rfl) rfl rfl rfl rfl rfl (Nat.le_of_ble_eq_true rfl) rfl ?_
  refine i_iconst M.mk 0 dX3_init_60 rfl ?_
  refine i_istore M.mk [(1, .int 0), (0, .ref h0)] dX3_init_61 rfl (by decide) rfl ?_
  have k0 := loop q1 q2 q3 u0 u2 10 0 rfl (fun _ => 0) (fun _ => 0)
  rw [nI_0] at k0
  have k1 : K 17 1255 62 [(1, .int 0), (0, .ref h0)] [] ((h0, o3 q1 q2 q3) :: (q1, .inl (g.2.2.2 1, 10, qrf (fM (fun _ => 0) 0))) :: (W0 g q2 u0 ++ W2 g q3 u2)) := by
    rw [← List.append_nil (W0 g q2 u0 ++ W2 g q3 u2)]
    exact k0
  exact i_ext M.mk (f' := fM (fun _ => 0) 0) (fun i _ => rfl) k1
