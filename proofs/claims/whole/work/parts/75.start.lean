/-! ===== the law from its entry ===== -/
theorem ck_L_76 : Ck RL 76 yX3_init cX3_init 2 none 0 := ⟨Or.inl (wt_at 62 (by decide +kernel) rfl), wt_at 48 (by decide +kernel) rfl, wt_at 64 (by decide +kernel) rfl, ⟨by decide +kernel, by decide +kernel⟩, by decide +kernel⟩
theorem ck_L_79 : Ck RL 79 yX4_init cX4_init 1 none 0 := ⟨Or.inl (wt_at 591 (by decide +kernel) rfl), wt_at 52 (by decide +kernel) rfl, wt_at 593 (by decide +kernel) rfl, ⟨by decide +kernel, by decide +kernel⟩, by decide +kernel⟩
section KW
variable {g : Gl} {fr lo mc ms : Nat} {K : KTI}
/-- the law's first eight instructions -/
theorem law_head {b : Nat} (M : MkI g RL cL_law 7 fr lo mc ms false K) (hR : 3 ≤ fr ∧ 61 ≤ lo ∧ 57 ≤ mc ∧ 6750 ≤ ms)
    (kk : ∀ (h0 h1 qL : Nat) (a : Nat → Nat → Nat) (d : Nat → Nat), K 57 6750 23 [(4, .int 0), (3, .ref qL), (2, .ref h1), (1, .ref h0), (0, .ref b)] [] (LL g h0 h1 qL a d)) : K 0 0 0 [(0, .ref b)] [] [] := by
  refine i_new M (fs := fs3) dL_law_0 (ci := 3) rfl inW3 tyX3_ok (wt_at 60 (by decide +kernel) rfl) (wt_at 61 (by decide +kernel) rfl) (wt_at 48 (by decide +kernel) rfl) (by decide +kernel) ⟨by omega, by omega⟩ (fun h0 => ?_)
  refine i_dup M dL_law_3 ?_
  refine i_init M (ws := []) dL_law_4 ck_L_76 ⟨rfl, wt_at 63 (by decide +kernel) rfl⟩ ⟨by omega, by omega, by omega, by omega⟩ (Nat.le_of_ble_eq_true rfl) (c_X3_init g) (fun a => ?_)
  show K 38 2393 7 [(0, .ref b)] [.ref h0] (W3 g h0 a)
  refine i_astore M [(1, .ref h0), (0, .ref b)] dL_law_7 rfl (by decide) rfl ?_
  refine i_new M (fs := fs4) dL_law_8 (ci := 4) rfl inW4 tyX4_ok (wt_at 589 (by decide +kernel) rfl) (wt_at 590 (by decide +kernel) rfl) (wt_at 52 (by decide +kernel) rfl) (by decide +kernel) ⟨by omega, by omega⟩ (fun h1 => ?_)
  refine i_dup M dL_law_11 ?_
  refine i_init M dL_law_12 ck_L_79 ⟨rfl, wt_at 592 (by decide +kernel) rfl⟩ ⟨by omega, by omega, by omega, by omega⟩ (Nat.le_of_ble_eq_true rfl) (c_X4_init g) (fun d => ?_)
  refine i_astore M [(2, .ref h1), (1, .ref h0), (0, .ref b)] dL_law_15 rfl (by decide) rfl ?_
  refine i_iconst M 1 dL_law_16 rfl ?_
  refine i_newl M 1 dL_law_17 rfl (by decide) (by decide) ⟨by omega, by omega⟩ (fun qL => ?_)
  refine i_astore M [(3, .ref qL), (2, .ref h1), (1, .ref h0), (0, .ref b)] dL_law_19 rfl (by decide) rfl ?_
  refine i_iconst M 0 dL_law_20 rfl ?_
  refine i_istoreW M [(4, .int 0), (3, .ref qL), (2, .ref h1), (1, .ref h0), (0, .ref b)] dL_law_21 (by decide) rfl ?_
  exact kk h0 h1 qL a d
end KW
/-- from the entry, for every script of at most 2048 ints, the law comes to its end with true -/
theorem whole_start {p : Program} {e : Env} {s : State} {m : MethodId} {below : List Frame} {meth : Method} {c : Code} (l : Launch) (hflags : l.flags = flags0) {b L : Nat} {xs : Nat → Int32} (hL : L ≤ 2048) (C0 : lw_At p s m meth c b L xs) : W p l e room_1 s m #[Value.ref b] below meth c s.heap [] 0 0 (lw_Z below #[Value.ref b] s) (entryFrame m ([Value.ref b] : List Value).toArray 7) := by
  obtain ⟨g, rfl, hG⟩ := ki_start l C0
  obtain ⟨hx, hb, hr, hml, hown, hts, hX, hbl, hlocks, hgv⟩ := id C0
  have C : CtI g RL cL_law 7 3 61 57 6750 p room_1 s m #[Value.ref b] meth c (fun q => s.heap.size ≤ q) :=
    ⟨hx, hb, hml, hown, fun w hw => hts w (List.mem_filter.mp hw).1, hG, fun q hq => hq, hlocks, Nat.le_of_ble_eq_true rfl, Nat.le_of_ble_eq_true rfl, Nat.le_of_ble_eq_true rfl, Nat.le_of_ble_eq_true rfl⟩
  have M : MkI g RL cL_law 7 3 61 57 6750 false (WkI g 7 p e room_1 s m #[Value.ref b] below meth c (fun q => s.heap.size ≤ q) (lw_Z below #[Value.ref b] s)) :=
    ⟨p, e, room_1, s, m, _, below, meth, c, _, _, C, (fun h => by cases h), fun _ _ _ _ _ _ => Iff.rfl⟩
  have k := law_head (b := b) M ⟨by omega, by omega, by omega, by omega⟩ (fun h0 h1 qL a d => by
    intro H locs ls hP hD hS hl
    obtain ⟨hA1, hA2⟩ := apt_start hD
    have hGV : GV (gW g (adG h0 h1 qL a d)) s := ⟨hG.1, hG.2.1, f_str C0, f_nc C0, hA1, f_st g.1 hflags⟩
    refine loop_W hL C0 hGV (f_Zs C0) hA2 (w_start hP) hS ⟨hl.1, hl.2.1, fun n v hv => ?_⟩ (Nat.le_of_ble_eq_true rfl) (Nat.le_of_ble_eq_true rfl)
    match n, hv with
    | 0, hv => cases hv; exact lv_at hl 4 rfl
    | 1, hv => cases hv; exact lv_at hl 3 rfl
    | 2, hv => cases hv; exact lv_at hl 2 rfl
    | 3, hv => cases hv; exact lv_at hl 1 rfl
    | 4, hv => cases hv; exact lv_at hl 0 rfl
    | 5, hv => cases hv
    | 6, hv => cases hv
    | n + 7, hv => cases hv)
  have hl := lv_entry ([.ref b] : List Value) (n := 7) (Nat.le_of_ble_eq_true rfl)
  rw [lg_entry_eq]
  exact k s.heap [] _ (fun k q h => by simp at h) ⟨fun i j p q h => by simp at h, fun k q h => by simp at h⟩ va_S.rf hl
