/-! ===== the law's loop ===== -/
section LOOP
variable {g : Gl} {b Ln : Nat} {xs : Nat → Int32} {K : KT} {Inv : Nat → St → Prop}
def OpsA (g : Gl) (Inv : Nat → St → Prop) : Prop := Op0 g Inv ∧ Op1 g Inv ∧ Op2 g Inv ∧ Op3 g Inv ∧ Op4 g Inv ∧ Op5 g Inv ∧ Op6 g Inv ∧ Op7 g Inv ∧ Op8 g Inv ∧ Op9 g Inv ∧ Op10 g Inv ∧ Op11 g Inv ∧ Op12 g Inv ∧ Op13 g Inv ∧ Op14 g Inv ∧ Op15 g Inv ∧ Op16 g Inv ∧ Op17 g Inv ∧ Op18 g Inv ∧ Op19 g Inv ∧ Op20 g Inv ∧ Op21 g Inv ∧ Op22 g Inv ∧ (∀ (t : Nat) (S : St), t < 512 → Inv t S → Inv (t + 1) S)
theorem law_exit (MW : MkW g b Ln xs 4096 K) (hLn : Ln ≤ 2048) {t n : Nat} {S : St} {c5 c6 : Option AV} (htb : t ≤ 600) (ht : ¬ 4 * t + 4 ≤ Ln) : K n 23 [some (vX b), some (vR 0 0), some (vR 11 0), some (vR 29 0), some (vI (4 * (t : Int))), c5, c6] [] S := by
  have M := MW.mk
  refine r_iload M dL_law_23 rfl ?_
  refine r_xload_n M dL_law_25 rfl ?_
  refine rw_len MW dL_law_26 ?_
  refine r_iconst M dL_law_27 ?_
  refine r_isub M dL_law_28 ?_
  refine r_icmp_gt M dL_law_29 (tgt := 1262) rfl (by omega) (fun b29 => ?_) (fun b29 => by omega)
  refine r_iconst M dL_law_1262 ?_
  exact rw_ret MW dL_law_1263
theorem law_inc (MW : MkW g b Ln xs 4096 K) {t n : Nat} {S : St} {c5 c6 : Option AV} (hk : K n 23 [some (vX b), some (vR 0 0), some (vR 11 0), some (vR 29 0), some (vI (4 * ((t + 1 : Nat) : Int))), c5, c6] [] S) : K n 1256 [some (vX b), some (vR 0 0), some (vR 11 0), some (vR 29 0), some (vI (4 * (t : Int))), c5, c6] [] S := by
  have M := MW.mk
  refine r_iinc_4 M ((4 * ((t + 1 : Nat) : Int))) dL_law_1256 (by omega) (by decide) rfl ?_
  refine r_goto M dL_law_1259 (tgt := 23) rfl ?_
  exact hk
theorem law_body (MW : MkW g b Ln xs 4096 K) (O : OpsA g Inv) (hLn : Ln ≤ 2048) {t n : Nat} {S : St} {c5 c6 : Option AV} (ht : 4 * t + 4 ≤ Ln) (hn : n ≤ 8 * t) (hI : Inv t S) (hk : ∀ (n9 : Nat) (S9 : St) (d5 d6 : Option AV), n9 ≤ n + 8 → Inv (t + 1) S9 → K n9 1256 [some (vX b), some (vR 0 0), some (vR 11 0), some (vR 29 0), some (vI (4 * (t : Int))), d5, d6] [] S9) : K n 23 [some (vX b), some (vR 0 0), some (vR 11 0), some (vR 29 0), some (vI (4 * (t : Int))), c5, c6] [] S := by
  have M := MW.mk
  obtain ⟨O0, O1, O2, O3, O4, O5, O6, O7, O8, O9, O10, O11, O12, O13, O14, O15, O16, O17, O18, O19, O20, O21, O22, OD⟩ := O
  refine r_iload M dL_law_23 rfl ?_
  refine r_xload_n M dL_law_25 rfl ?_
  refine rw_len MW dL_law_26 ?_
  refine r_iconst M dL_law_27 ?_
  refine r_isub M dL_law_28 ?_
  refine r_icmp_gt M dL_law_29 (tgt := 1262) rfl (by omega) (fun b29 => by omega) (fun b29 => ?_)
  refine r_xload_n M dL_law_32 rfl ?_
  refine r_iload M dL_law_33 rfl ?_
  refine rw_sld MW (4 * t) dL_law_35 (by omega) (by omega) ?_
  refine r_bipush M dL_law_36 rfl ?_
  refine r_iand M dL_law_38 ?_
  skip
  have hz := rgX (Int32.ofInt (xs (4 * t)).toInt &&& Int32.ofInt 31)
  generalize (Int32.ofInt (xs (4 * t)).toInt &&& Int32.ofInt 31).toInt = z at hz ⊢
  by_cases h : z < 0 ∨ 22 < z
  · exact rw_out MW dL_law_39 hz h (tgt := 1256) rfl (hk _ _ _ _ (by omega) (OD t S (by omega) hI))
  · have h23 : z = 0 ∨ z = 1 ∨ z = 2 ∨ z = 3 ∨ z = 4 ∨ z = 5 ∨ z = 6 ∨ z = 7 ∨ z = 8 ∨ z = 9 ∨ z = 10 ∨ z = 11 ∨ z = 12 ∨ z = 13 ∨ z = 14 ∨ z = 15 ∨ z = 16 ∨ z = 17 ∨ z = 18 ∨ z = 19 ∨ z = 20 ∨ z = 21 ∨ z = 22 := by omega
    rcases h23 with rfl | rfl | rfl | rfl | rfl | rfl | rfl | rfl | rfl | rfl | rfl | rfl | rfl | rfl | rfl | rfl | rfl | rfl | rfl | rfl | rfl | rfl | rfl
    · exact rw_in MW dL_law_39 (by omega) (by omega) (by omega) rfl (tgt := 144) rfl (lc_0 MW O0 ht hLn hn hI hk)
    · exact rw_in MW dL_law_39 (by omega) (by omega) (by omega) rfl (tgt := 224) rfl (lc_1 MW O1 ht hLn hn hI hk)
    · exact rw_in MW dL_law_39 (by omega) (by omega) (by omega) rfl (tgt := 292) rfl (lc_2 MW O2 ht hLn hn hI hk)
    · exact rw_in MW dL_law_39 (by omega) (by omega) (by omega) rfl (tgt := 360) rfl (lc_3 MW O3 ht hLn hn hI hk)
    · exact rw_in MW dL_law_39 (by omega) (by omega) (by omega) rfl (tgt := 428) rfl (lc_4 MW O4 ht hLn hn hI hk)
    · exact rw_in MW dL_law_39 (by omega) (by omega) (by omega) rfl (tgt := 484) rfl (lc_5 MW O5 ht hLn hn hI hk)
    · exact rw_in MW dL_law_39 (by omega) (by omega) (by omega) rfl (tgt := 520) rfl (lc_6 MW O6 ht hLn hn hI hk)
    · exact rw_in MW dL_law_39 (by omega) (by omega) (by omega) rfl (tgt := 564) rfl (lc_7 MW O7 ht hLn hn hI hk)
    · exact rw_in MW dL_law_39 (by omega) (by omega) (by omega) rfl (tgt := 632) rfl (lc_8 MW O8 ht hLn hn hI hk)
    · exact rw_in MW dL_law_39 (by omega) (by omega) (by omega) rfl (tgt := 692) rfl (lc_9 MW O9 ht hLn hn hI hk)
    · exact rw_in MW dL_law_39 (by omega) (by omega) (by omega) rfl (tgt := 736) rfl (lc_10 MW O10 ht hLn hn hI hk)
    · exact rw_in MW dL_law_39 (by omega) (by omega) (by omega) rfl (tgt := 749) rfl (lc_11 MW O11 ht hLn hn hI hk)
    · exact rw_in MW dL_law_39 (by omega) (by omega) (by omega) rfl (tgt := 805) rfl (lc_12 MW O12 ht hLn hn hI hk)
    · exact rw_in MW dL_law_39 (by omega) (by omega) (by omega) rfl (tgt := 861) rfl (lc_13 MW O13 ht hLn hn hI hk)
    · exact rw_in MW dL_law_39 (by omega) (by omega) (by omega) rfl (tgt := 917) rfl (lc_14 MW O14 ht hLn hn hI hk)
    · exact rw_in MW dL_law_39 (by omega) (by omega) (by omega) rfl (tgt := 973) rfl (lc_15 MW O15 ht hLn hn hI hk)
    · exact rw_in MW dL_law_39 (by omega) (by omega) (by omega) rfl (tgt := 1036) rfl (lc_16 MW O16 ht hLn hn hI hk)
    · exact rw_in MW dL_law_39 (by omega) (by omega) (by omega) rfl (tgt := 1092) rfl (lc_17 MW O17 ht hLn hn hI hk)
    · exact rw_in MW dL_law_39 (by omega) (by omega) (by omega) rfl (tgt := 1148) rfl (lc_18 MW O18 ht hLn hn hI hk)
    · exact rw_in MW dL_law_39 (by omega) (by omega) (by omega) rfl (tgt := 1204) rfl (lc_19 MW O19 ht hLn hn hI hk)
    · exact rw_in MW dL_law_39 (by omega) (by omega) (by omega) rfl (tgt := 1217) rfl (lc_20 MW O20 ht hLn hn hI hk)
    · exact rw_in MW dL_law_39 (by omega) (by omega) (by omega) rfl (tgt := 1230) rfl (lc_21 MW O21 ht hLn hn hI hk)
    · exact rw_in MW dL_law_39 (by omega) (by omega) (by omega) rfl (tgt := 1243) rfl (lc_22 MW O22 ht hLn hn hI hk)
theorem law_loop (MW : MkW g b Ln xs 4096 K) (O : OpsA g Inv) (hLn : Ln ≤ 2048) : ∀ (f t n : Nat) (S : St) (c5 c6 : Option AV), t + f = 513 → n ≤ 8 * t → Inv t S → K n 23 [some (vX b), some (vR 0 0), some (vR 11 0), some (vR 29 0), some (vI (4 * (t : Int))), c5, c6] [] S := by
  intro f
  induction f with
  | zero =>
    intro t n S c5 c6 hf hn hI
    exact law_exit MW hLn (by omega) (by omega)
  | succ f ih =>
    intro t n S c5 c6 hf hn hI
    by_cases ht : 4 * t + 4 ≤ Ln
    · exact law_body MW O hLn ht hn hI (fun n9 S9 d5 d6 hn9 hI9 => law_inc MW (ih (t + 1) n9 S9 d5 d6 (by omega) (by omega) hI9))
    · exact law_exit MW hLn (by omega) ht
end LOOP
