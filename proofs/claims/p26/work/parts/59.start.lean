/-! ===== the law from its entry ===== -/
theorem loop_W {p : Program} {e : Env} {s : State} {m : MethodId} {below : List Frame} {meth : Method} {c : Code} {b L : Nat} {xs : Nat → Int32} (hL : L ≤ 260) (C0 : lw_At p s m meth c b L xs) {g : Gl} (hG : GV g s) (hZ : Zs (fun q => s.heap.size ≤ q) s s.heap) (hA : ∀ q, q ∈ prs → s.heap.size ≤ g.2.2.1 q.1 q.2)
    {H : Heap} {locs : List Loc} {ls : Array Slot} {cells slots : Nat} (hW : Wd g St0 H) (hS : va_S (fun q => s.heap.size ≤ q) s.heap H locs) (hls : lvs g ls 9 [some (vX b), some (vR 0 0), some (vR 11 0), some (vR 12 0), some (vI ((0 : Nat) : Int)), none, none, none, none]) (hc : cells + 20000 ≤ 600130) (hs : slots + 6 * 20000 ≤ 7301080) :
    W p g.1 e room_1 s m #[Value.ref b] below meth c H locs cells slots (lw_Z below #[Value.ref b] s) (F0 m 21 ls []) := by
  obtain ⟨hx, hb, hr, hml, hown, hts, hX, hbl, hlocks, hgv⟩ := C0
  have C : Ctx g RL cL_law 9 12 426 20000 p room_1 s m #[Value.ref b] meth c (fun q => s.heap.size ≤ q) cells slots :=
    ⟨hx, hb, hml, hown, fun w hw => hts w (List.mem_filter.mp hw).1, hG, hA, fun q hq => hq, hZ, hlocks, Nat.le_refl _, Nat.le_refl _, hc, hs⟩
  have MW : MkW g b L xs 20000 (Wk g 9 20000 p e room_1 s m #[Value.ref b] below meth c (fun q => s.heap.size ≤ q) cells slots (lw_Z below #[Value.ref b] s)) :=
    ⟨p, e, s, m, below, meth, c, cells, slots, C, hr, hX, hbl, by omega, fun _ _ _ _ _ => Iff.rfl⟩
  have k := law_loop MW 0 (by omega) St0 LI_0 (fun q => absurd q (by omega)) none none none none
  exact k (Nat.zero_le _) H locs ls hW hS hls
theorem ck_L_74 : Ck RL 74 yX3_init cX3_init 2 none 0 := ⟨Or.inl (wt_at 47 (by decide +kernel) rfl), wt_at 34 (by decide +kernel) rfl, wt_at 49 (by decide +kernel) rfl, ⟨by decide +kernel, by decide +kernel⟩, by decide +kernel⟩
section KW
variable {g : Gl} {fr lo mc ms : Nat} {K : KTI}
/-- the law's first twelve instructions -/
theorem law_head {b : Nat} (M : MkI g RL cL_law 9 fr lo mc ms false K) (hR : 3 ≤ fr ∧ 61 ≤ lo ∧ 40 ≤ mc ∧ 2453 ≤ ms)
    (kk : ∀ (h0 qh qr : Nat) (a : Nat → Nat → Nat), K 40 2453 21 [(4, .int 0), (3, .ref qr), (2, .ref qh), (1, .ref h0), (0, .ref b)] [] (LL g h0 qh qr a)) : K 0 0 0 [(0, .ref b)] [] [] := by
  refine i_new M (fs := fs3) dL_law_0 (ci := 3) rfl inW3 tyX3_ok (wt_at 45 (by decide +kernel) rfl) (wt_at 46 (by decide +kernel) rfl) (wt_at 34 (by decide +kernel) rfl) (by decide +kernel) ⟨by omega, by omega⟩ (fun h0 => ?_)
  refine i_dup M dL_law_3 ?_
  refine i_init M (ws := []) dL_law_4 ck_L_74 ⟨rfl, wt_at 48 (by decide +kernel) rfl⟩ ⟨by omega, by omega, by omega, by omega⟩ (Nat.le_of_ble_eq_true rfl) (c_X3_init g) (fun a => ?_)
  show K 38 2393 7 [(0, .ref b)] [.ref h0] (W3 g h0 a)
  refine i_astore M [(1, .ref h0), (0, .ref b)] dL_law_7 rfl (by decide) rfl ?_
  refine i_bipush M 50 dL_law_8 rfl ?_
  refine i_newa M 50 dL_law_10 rfl (by decide) (by decide) ⟨by omega, by omega⟩ (fun qh => ?_)
  refine i_astore M [(2, .ref qh), (1, .ref h0), (0, .ref b)] dL_law_12 rfl (by decide) rfl ?_
  refine i_bipush M 10 dL_law_13 rfl ?_
  refine i_newa M 10 dL_law_15 rfl (by decide) (by decide) ⟨by omega, by omega⟩ (fun qr => ?_)
  refine i_astore M [(3, .ref qr), (2, .ref qh), (1, .ref h0), (0, .ref b)] dL_law_17 rfl (by decide) rfl ?_
  refine i_iconst M 0 dL_law_18 rfl ?_
  refine i_istoreW M [(4, .int 0), (3, .ref qr), (2, .ref qh), (1, .ref h0), (0, .ref b)] dL_law_19 (by decide) rfl ?_
  exact kk h0 qh qr a
end KW
/-- from the entry, for every script of at most 260 ints, the law comes to its end with true -/
theorem whole_start {p : Program} {e : Env} {s : State} {m : MethodId} {below : List Frame} {meth : Method} {c : Code} (l : Launch) (hflags : l.flags = flags0) {b L : Nat} {xs : Nat → Int32} (hL : L ≤ 260) (C0 : lw_At p s m meth c b L xs) : W p l e room_1 s m #[Value.ref b] below meth c s.heap [] 0 0 (lw_Z below #[Value.ref b] s) (entryFrame m ([Value.ref b] : List Value).toArray 9) := by
  obtain ⟨g, rfl, hG⟩ := ki_start l C0
  obtain ⟨hx, hb, hr, hml, hown, hts, hX, hbl, hlocks, hgv⟩ := id C0
  have C : CtI g RL cL_law 9 3 61 40 2453 p room_1 s m #[Value.ref b] meth c (fun q => s.heap.size ≤ q) :=
    ⟨hx, hb, hml, hown, fun w hw => hts w (List.mem_filter.mp hw).1, hG, fun q hq => hq, hlocks, Nat.le_of_ble_eq_true rfl, Nat.le_of_ble_eq_true rfl, Nat.le_of_ble_eq_true rfl, Nat.le_of_ble_eq_true rfl⟩
  have M : MkI g RL cL_law 9 3 61 40 2453 false (WkI g 9 p e room_1 s m #[Value.ref b] below meth c (fun q => s.heap.size ≤ q) (lw_Z below #[Value.ref b] s)) :=
    ⟨p, e, room_1, s, m, _, below, meth, c, _, _, C, (fun h => by cases h), fun _ _ _ _ _ _ => Iff.rfl⟩
  have k := law_head (b := b) M ⟨by omega, by omega, by omega, by omega⟩ (fun h0 qh qr a => by
    intro H locs ls hP hD hS hl
    obtain ⟨hA1, hA2⟩ := apt_start hD
    have hGV : GV (gW g (adG h0 qh qr a)) s := ⟨hG.1, hG.2.1, f_str C0, f_nc s, hA1, f_st g.1 hflags⟩
    refine loop_W hL C0 hGV (f_Zs C0) hA2 (w_start hP) hS ⟨hl.1, hl.2.1, fun n v hv => ?_⟩ (Nat.le_of_ble_eq_true rfl) (Nat.le_of_ble_eq_true rfl)
    match n, hv with
    | 0, hv => cases hv; exact lv_at hl 4 rfl
    | 1, hv => cases hv; exact lv_at hl 3 rfl
    | 2, hv => cases hv; exact lv_at hl 2 rfl
    | 3, hv => cases hv; exact lv_at hl 1 rfl
    | 4, hv => cases hv; exact lv_at hl 0 rfl
    | 5, hv => cases hv
    | 6, hv => cases hv
    | 7, hv => cases hv
    | 8, hv => cases hv
    | n + 9, hv => cases hv)
  have hl := lv_entry ([.ref b] : List Value) (n := 9) (Nat.le_of_ble_eq_true rfl)
  rw [lg_entry_eq]
  exact k s.heap [] _ (fun k q h => by simp at h) ⟨fun i j p q h => by simp at h, fun k q h => by simp at h⟩ va_S.rf hl
