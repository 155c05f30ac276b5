/-! ===== the constructors that make arrays alone ===== -/
def fs1 : List Value := [.null, .int 0, .int 0, .int 0, .int 0, .int 0, .int 0, .int 0, .int 0, .int 0, .int 0, .int 0, .int 0]
def o1 (q : Nat) : va_E := .inr (1, [.ref q, .int 0, .int 0, .int 0, .int 0, .int 0, .int 0, .int 0, .int 0, .int 0, .int 0, .int 0, .int 0])
def W1 (g : Gl) (h0 : Nat) (q : Nat) : va_W := [(h0, o1 q), (q, .inl (g.2.2.2 0, 100, .inl fun _ => 0))]
set_option maxRecDepth 20000 in
/-- a Member and its row of clients -/
theorem c_X1_init (g : Gl) : MetI g yX1_init cX1_init 1 1 20 1 100 1 fs1 (W1 g) := by
  refine enterI rfl rfl (by decide) (fun h0 K M => ?_)
  have k : K 0 0 0 [(0, .ref h0)] [] ((h0, .inr (1, [.null, .int 0, .int 0, .int 0, .int 0, .int 0, .int 0, .int 0, .int 0, .int 0, .int 0, .int 0, .int 0])) :: []) := by
    refine i_aload M.mk 0 dX1_init_0 rfl rfl ?_
    refine i_obj M.mk dX1_init_1 (wt_at 92 (by decide +kernel) rfl) (wt_at 51 (by decide +kernel) rfl) (wt_at 52 (by decide +kernel) rfl) ⟨by decide, by decide⟩ ?_
    refine i_aload M.mk 0 dX1_init_4 rfl rfl ?_
    refine i_bipush M.mk 100 dX1_init_5 rfl ?_
    refine i_newa M.mk 100 dX1_init_7 rfl (by decide) (by decide) ⟨by decide, Nat.le_of_ble_eq_true rfl⟩ (fun q1 => ?_)
    show K 1 100 9 [(0, .ref h0)] [.ref q1, .ref h0] ((h0, .inr (1, [.null, .int 0, .int 0, .int 0, .int 0, .int 0, .int 0, .int 0, .int 0, .int 0, .int 0, .int 0, .int 0])) :: [(q1, .inl (g.2.2.2 0, 100, .inl fun _ => 0))])
    refine i_putF M.mk (k := 0) dX1_init_9 rfl inW1 tyX1_ok nmX1 (by decide) (wt_at 93 (by decide +kernel) rfl) rfl rfl rfl rfl rfl (Nat.le_of_ble_eq_true rfl) rfl ?_
    show K 1 100 12 [(0, .ref h0)] [] ((h0, .inr (1, [.ref q1, .int 0, .int 0, .int 0, .int 0, .int 0, .int 0, .int 0, .int 0, .int 0, .int 0, .int 0, .int 0])) :: [(q1, .inl (g.2.2.2 0, 100, .inl fun _ => 0))])
    refine i_aload M.mk 0 dX1_init_12 rfl rfl ?_
    refine i_iconst M.mk (0) dX1_init_13 rfl ?_
    refine i_put M.mk (k := 1) dX1_init_14 rfl inW1 tyX1_ok nmX1 (by decide) (wt_at 95 (by decide +kernel) rfl) rfl rfl rfl rfl rfl (Nat.le_of_ble_eq_true rfl) rfl ?_
    show K 1 100 17 [(0, .ref h0)] [] ((h0, .inr (1, [.ref q1, .int 0, .int 0, .int 0, .int 0, .int 0, .int 0, .int 0, .int 0, .int 0, .int 0, .int 0, .int 0])) :: [(q1, .inl (g.2.2.2 0, 100, .inl fun _ => 0))])
    refine i_aload M.mk 0 dX1_init_17 rfl rfl ?_
    refine i_iconst M.mk (0) dX1_init_18 rfl ?_
    refine i_put M.mk (k := 2) dX1_init_19 rfl inW1 tyX1_ok nmX1 (by decide) (wt_at 97 (by decide +kernel) rfl) rfl rfl rfl rfl rfl (Nat.le_of_ble_eq_true rfl) rfl ?_
    show K 1 100 22 [(0, .ref h0)] [] ((h0, .inr (1, [.ref q1, .int 0, .int 0, .int 0, .int 0, .int 0, .int 0, .int 0, .int 0, .int 0, .int 0, .int 0, .int 0])) :: [(q1, .inl (g.2.2.2 0, 100, .inl fun _ => 0))])
    refine i_aload M.mk 0 dX1_init_22 rfl rfl ?_
    refine i_iconst M.mk (0) dX1_init_23 rfl ?_
    refine i_put M.mk (k := 3) dX1_init_24 rfl inW1 tyX1_ok nmX1 (by decide) (wt_at 99 (by decide +kernel) rfl) rfl rfl rfl rfl rfl (Nat.le_of_ble_eq_true rfl) rfl ?_
    show K 1 100 27 [(0, .ref h0)] [] ((h0, .inr (1, [.ref q1, .int 0, .int 0, .int 0, .int 0, .int 0, .int 0, .int 0, .int 0, .int 0, .int 0, .int 0, .int 0])) :: [(q1, .inl (g.2.2.2 0, 100, .inl fun _ => 0))])
    refine i_aload M.mk 0 dX1_init_27 rfl rfl ?_
    refine i_iconst M.mk (0) dX1_init_28 rfl ?_
    refine i_put M.mk (k := 4) dX1_init_29 rfl inW1 tyX1_ok nmX1 (by decide) (wt_at 101 (by decide +kernel) rfl) rfl rfl rfl rfl rfl (Nat.le_of_ble_eq_true rfl) rfl ?_
    show K 1 100 32 [(0, .ref h0)] [] ((h0, .inr (1, [.ref q1, .int 0, .int 0, .int 0, .int 0, .int 0, .int 0, .int 0, .int 0, .int 0, .int 0, .int 0, .int 0])) :: [(q1, .inl (g.2.2.2 0, 100, .inl fun _ => 0))])
    refine i_aload M.mk 0 dX1_init_32 rfl rfl ?_
    refine i_iconst M.mk (0) dX1_init_33 rfl ?_
    refine i_put M.mk (k := 5) dX1_init_34 rfl inW1 tyX1_ok nmX1 (by decide) (wt_at 103 (by decide +kernel) rfl) rfl rfl rfl rfl rfl (Nat.le_of_ble_eq_true rfl) rfl ?_
    show K 1 100 37 [(0, .ref h0)] [] ((h0, .inr (1, [.ref q1, .int 0, .int 0, .int 0, .int 0, .int 0, .int 0, .int 0, .int 0, .int 0, .int 0, .int 0, .int 0])) :: [(q1, .inl (g.2.2.2 0, 100, .inl fun _ => 0))])
    refine i_aload M.mk 0 dX1_init_37 rfl rfl ?_
    refine i_iconst M.mk (0) dX1_init_38 rfl ?_
    refine i_put M.mk (k := 6) dX1_init_39 rfl inW1 tyX1_ok nmX1 (by decide) (wt_at 105 (by decide +kernel) rfl) rfl rfl rfl rfl rfl (Nat.le_of_ble_eq_true rfl) rfl ?_
    show K 1 100 42 [(0, .ref h0)] [] ((h0, .inr (1, [.ref q1, .int 0, .int 0, .int 0, .int 0, .int 0, .int 0, .int 0, .int 0, .int 0, .int 0, .int 0, .int 0])) :: [(q1, .inl (g.2.2.2 0, 100, .inl fun _ => 0))])
    refine i_aload M.mk 0 dX1_init_42 rfl rfl ?_
    refine i_iconst M.mk (0) dX1_init_43 rfl ?_
    refine i_put M.mk (k := 7) dX1_init_44 rfl inW1 tyX1_ok nmX1 (by decide) (wt_at 106 (by decide +kernel) rfl) rfl rfl rfl rfl rfl (Nat.le_of_ble_eq_true rfl) rfl ?_
    show K 1 100 47 [(0, .ref h0)] [] ((h0, .inr (1, [.ref q1, .int 0, .int 0, .int 0, .int 0, .int 0, .int 0, .int 0, .int 0, .int 0, .int 0, .int 0, .int 0])) :: [(q1, .inl (g.2.2.2 0, 100, .inl fun _ => 0))])
    refine i_aload M.mk 0 dX1_init_47 rfl rfl ?_
    refine i_iconst M.mk (0) dX1_init_48 rfl ?_
    refine i_put M.mk (k := 8) dX1_init_49 rfl inW1 tyX1_ok nmX1 (by decide) (wt_at 108 (by decide +kernel) rfl) rfl rfl rfl rfl rfl (Nat.le_of_ble_eq_true rfl) rfl ?_
    show K 1 100 52 [(0, .ref h0)] [] ((h0, .inr (1, [.ref q1, .int 0, .int 0, .int 0, .int 0, .int 0, .int 0, .int 0, .int 0, .int 0, .int 0, .int 0, .int 0])) :: [(q1, .inl (g.2.2.2 0, 100, .inl fun _ => 0))])
    refine i_aload M.mk 0 dX1_init_52 rfl rfl ?_
    refine i_iconst M.mk (0) dX1_init_53 rfl ?_
    refine i_put M.mk (k := 9) dX1_init_54 rfl inW1 tyX1_ok nmX1 (by decide) (wt_at 110 (by decide +kernel) rfl) rfl rfl rfl rfl rfl (Nat.le_of_ble_eq_true rfl) rfl ?_
    show K 1 100 57 [(0, .ref h0)] [] ((h0, .inr (1, [.ref q1, .int 0, .int 0, .int 0, .int 0, .int 0, .int 0, .int 0, .int 0, .int 0, .int 0, .int 0, .int 0])) :: [(q1, .inl (g.2.2.2 0, 100, .inl fun _ => 0))])
    refine i_aload M.mk 0 dX1_init_57 rfl rfl ?_
    refine i_iconst M.mk (0) dX1_init_58 rfl ?_
    refine i_put M.mk (k := 10) dX1_init_59 rfl inW1 tyX1_ok nmX1 (by decide) (wt_at 112 (by decide +kernel) rfl) rfl rfl rfl rfl rfl (Nat.le_of_ble_eq_true rfl) rfl ?_
    show K 1 100 62 [(0, .ref h0)] [] ((h0, .inr (1, [.ref q1, .int 0, .int 0, .int 0, .int 0, .int 0, .int 0, .int 0, .int 0, .int 0, .int 0, .int 0, .int 0])) :: [(q1, .inl (g.2.2.2 0, 100, .inl fun _ => 0))])
    refine i_aload M.mk 0 dX1_init_62 rfl rfl ?_
    refine i_iconst M.mk (0) dX1_init_63 rfl ?_
    refine i_put M.mk (k := 11) dX1_init_64 rfl inW1 tyX1_ok nmX1 (by decide) (wt_at 114 (by decide +kernel) rfl) rfl rfl rfl rfl rfl (Nat.le_of_ble_eq_true rfl) rfl ?_
    show K 1 100 67 [(0, .ref h0)] [] ((h0, .inr (1, [.ref q1, .int 0, .int 0, .int 0, .int 0, .int 0, .int 0, .int 0, .int 0, .int 0, .int 0, .int 0, .int 0])) :: [(q1, .inl (g.2.2.2 0, 100, .inl fun _ => 0))])
    refine i_aload M.mk 0 dX1_init_67 rfl rfl ?_
    refine i_iconst M.mk (0) dX1_init_68 rfl ?_
    refine i_put M.mk (k := 12) dX1_init_69 rfl inW1 tyX1_ok nmX1 (by decide) (wt_at 116 (by decide +kernel) rfl) rfl rfl rfl rfl rfl (Nat.le_of_ble_eq_true rfl) rfl ?_
    show K 1 100 72 [(0, .ref h0)] [] ((h0, .inr (1, [.ref q1, .int 0, .int 0, .int 0, .int 0, .int 0, .int 0, .int 0, .int 0, .int 0, .int 0, .int 0, .int 0])) :: [(q1, .inl (g.2.2.2 0, 100, .inl fun _ => 0))])
    exact i_ret M (q1) dX1_init_72 rfl ⟨Nat.le_refl _, Nat.le_refl _⟩
  exact k
def fs2 : List Value := [.null, .null, .null]
def o2 (q : Nat × Nat × Nat) : va_E := .inr (2, [.ref q.1, .ref q.2.1, .ref q.2.2])
def W2 (g : Gl) (h0 : Nat) (q : Nat × Nat × Nat) : va_W := [(h0, o2 q), (q.1, .inl (g.2.2.2 0, 10, .inl fun _ => 0)), (q.2.1, .inl (g.2.2.2 0, 10, .inl fun _ => 0)), (q.2.2, .inl (g.2.2.2 0, 10, .inl fun _ => 0))]
set_option maxRecDepth 20000 in
/-- a Parting and its three rows -/
theorem c_X2_init (g : Gl) : MetI g yX2_init cX2_init 1 1 20 3 30 2 fs2 (W2 g) := by
  refine enterI rfl rfl (by decide) (fun h0 K M => ?_)
  have k : K 0 0 0 [(0, .ref h0)] [] ((h0, .inr (2, [.null, .null, .null])) :: []) := by
    refine i_aload M.mk 0 dX2_init_0 rfl rfl ?_
    refine i_obj M.mk dX2_init_1 (wt_at 77 (by decide +kernel) rfl) (wt_at 51 (by decide +kernel) rfl) (wt_at 52 (by decide +kernel) rfl) ⟨by decide, by decide⟩ ?_
    refine i_aload M.mk 0 dX2_init_4 rfl rfl ?_
    refine i_bipush M.mk 10 dX2_init_5 rfl ?_
    refine i_newa M.mk 10 dX2_init_7 rfl (by decide) (by decide) ⟨by decide, Nat.le_of_ble_eq_true rfl⟩ (fun q1 => ?_)
    show K 1 10 9 [(0, .ref h0)] [.ref q1, .ref h0] ((h0, .inr (2, [.null, .null, .null])) :: [(q1, .inl (g.2.2.2 0, 10, .inl fun _ => 0))])
    refine i_putF M.mk (k := 0) dX2_init_9 rfl inW2 tyX2_ok nmX2 (by decide) (wt_at 78 (by decide +kernel) rfl) rfl rfl rfl rfl rfl (Nat.le_of_ble_eq_true rfl) rfl ?_
    show K 1 10 12 [(0, .ref h0)] [] ((h0, .inr (2, [.ref q1, .null, .null])) :: [(q1, .inl (g.2.2.2 0, 10, .inl fun _ => 0))])
    refine i_aload M.mk 0 dX2_init_12 rfl rfl ?_
    refine i_bipush M.mk 10 dX2_init_13 rfl ?_
    refine i_newa M.mk 10 dX2_init_15 rfl (by decide) (by decide) ⟨by decide, Nat.le_of_ble_eq_true rfl⟩ (fun q2 => ?_)
    show K 2 20 17 [(0, .ref h0)] [.ref q2, .ref h0] ((h0, .inr (2, [.ref q1, .null, .null])) :: [(q1, .inl (g.2.2.2 0, 10, .inl fun _ => 0)), (q2, .inl (g.2.2.2 0, 10, .inl fun _ => 0))])
    refine i_putF M.mk (k := 1) dX2_init_17 rfl inW2 tyX2_ok nmX2 (by decide) (wt_at 79 (by decide +kernel) rfl) rfl rfl rfl rfl rfl (Nat.le_of_ble_eq_true rfl) rfl ?_
    show K 2 20 20 [(0, .ref h0)] [] ((h0, .inr (2, [.ref q1, .ref q2, .null])) :: [(q1, .inl (g.2.2.2 0, 10, .inl fun _ => 0)), (q2, .inl (g.2.2.2 0, 10, .inl fun _ => 0))])
    refine i_aload M.mk 0 dX2_init_20 rfl rfl ?_
    refine i_bipush M.mk 10 dX2_init_21 rfl ?_
    refine i_newa M.mk 10 dX2_init_23 rfl (by decide) (by decide) ⟨by decide, Nat.le_of_ble_eq_true rfl⟩ (fun q3 => ?_)
    show K 3 30 25 [(0, .ref h0)] [.ref q3, .ref h0] ((h0, .inr (2, [.ref q1, .ref q2, .null])) :: [(q1, .inl (g.2.2.2 0, 10, .inl fun _ => 0)), (q2, .inl (g.2.2.2 0, 10, .inl fun _ => 0)), (q3, .inl (g.2.2.2 0, 10, .inl fun _ => 0))])
    refine i_putF M.mk (k := 2) dX2_init_25 rfl inW2 tyX2_ok nmX2 (by decide) (wt_at 80 (by decide +kernel) rfl) rfl rfl rfl rfl rfl (Nat.le_of_ble_eq_true rfl) rfl ?_
    show K 3 30 28 [(0, .ref h0)] [] ((h0, .inr (2, [.ref q1, .ref q2, .ref q3])) :: [(q1, .inl (g.2.2.2 0, 10, .inl fun _ => 0)), (q2, .inl (g.2.2.2 0, 10, .inl fun _ => 0)), (q3, .inl (g.2.2.2 0, 10, .inl fun _ => 0))])
    exact i_ret M ((q1, q2, q3)) dX2_init_28 rfl ⟨Nat.le_refl _, Nat.le_refl _⟩
  exact k
