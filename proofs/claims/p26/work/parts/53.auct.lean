/-! ===== an Auction and its table of bids ===== -/
def fs0 : List Value := [.null, .int 0]
def o0 (q : Nat) : va_E := .inr (0, [.ref q, .int 0])
def qrf (f : Nat → Option Nat) : (Nat → Int32) ⊕ (Nat → Int64) ⊕ (Nat → UInt32) ⊕ (Nat → UInt64) ⊕ (Nat → Option Nat) := .inr (.inr (.inr (.inr f)))
def rw0 (g : Gl) (r : Nat → Nat) : va_W := (List.range 10).map fun i => (r i, .inl (g.2.2.2 0, 120, .inl fun _ => 0))
def W0 (g : Gl) (h0 : Nat) (u : Nat × (Nat → Nat)) : va_W := (h0, o0 u.1) :: (u.1, .inl (g.2.2.2 2, 10, qrf fun i => some (u.2 i))) :: rw0 g u.2
theorem at_ext {D : va_G} {cl : List vw_C} {a n : Nat} {cA : ClassId} {f f' : Nat → Option Nat} {H : Heap} (h : ∀ i, i < n → f i = f' i) (k : va_at D cl (a, .inl (cA, n, qrf f)) H) : va_at D cl (a, .inl (cA, n, qrf f')) H := by
  have e : vp_cell cA (n, qrf f) = vp_cell cA (n, qrf f') := by
    show arrV cA n (fun j => va_rf (f j)) = arrV cA n (fun j => va_rf (f' j))
    unfold arrV
    congr 1
    congr 1
    funext j
    exact congrArg va_rf (h j.val j.isLt)
  show H[a]? = some (vp_cell cA (n, qrf f'))
  rw [← e]
  exact k
section KA
variable {g : Gl} {own : String} {cc : ByteArray} {nL fr lo mc ms : Nat} {ini : Bool} {K : KTI} {ce sl pc : Nat} {L : List (Nat × Value)} {st : List Value} {ws : va_W}
theorem i_ext (M : MkI g own cc nL fr lo mc ms ini K) {x : Nat × va_E} {a n : Nat} {cA : ClassId} {f f' : Nat → Option Nat} {rs : va_W} (h : ∀ i, i < n → f i = f' i) (kk : K ce sl pc L st (x :: (a, .inl (cA, n, qrf f')) :: rs)) : K ce sl pc L st (x :: (a, .inl (cA, n, qrf f)) :: rs) := by
  obtain ⟨p, e, R, s, m, args, below, meth, c, A, Q, C, hin, hK⟩ := M
  rw [hK] at kk ⊢
  intro H locs ls hP hD hS hL
  refine kk H locs ls (fun k q hk => ?_) ?_ hS hL
  · match k, hk with
    | 0, hk => exact hP 0 q hk
    | 1, hk =>
      cases hk
      exact at_ext h (hP 1 _ rfl)
    | k + 2, hk => exact hP (k + 2) q hk
  · have h1 : va_D A ((x :: (a, .inl (cA, n, qrf f)) :: rs).set 1 (a, .inl (cA, n, qrf f'))) := hD.set (p := 1) rfl
    exact h1
theorem i_mna (M : MkI g own cc nL fr lo mc ms ini K) {n k : Int32} {ix : Nat} (N' K' : Nat) (d : decode cc pc = .ok (.multianewarray ix 2, 4)) (hcl : Cond.classLink own ix "[[I" ∈ WT) (hN : n.toNatClampNeg = N') (hM : k.toNatClampNeg = K') (hn : ¬ n < 0) (hk : ¬ k < 0) (hb4 : N' ≤ 1000 ∧ K' ≤ 1000) (hc : ce + (1 + N') ≤ mc ∧ sl + (N' + N' * K') ≤ ms)
    (kk : ∀ (q : Nat) (r : Nat → Nat), K (ce + 1 + N') (sl + N' + N' * K') (pc + 4) L (.ref q :: st) (ws ++ ((q, .inl (g.2.2.2 2, N', qrf fun i => if i < N' then some (r i) else none)) :: (List.range N').map fun i => (r i, .inl (g.2.2.2 0, K', .inl fun _ => 0))))) : K ce sl pc L (.int k :: .int n :: st) ws := by
  obtain ⟨p, e, R, s, m, args, below, meth, c, A, Q, C, hin, hK⟩ := M
  rw [hK]
  intro H locs ls hP hD hS hL
  obtain ⟨hx, hb, hml, hown, hts, hG, hA, hlk, r1, r2, r3, r4⟩ := C
  have e0 : "[" ++ (FieldType.array .int).toString = "[[I" := by decide +kernel
  have hcl2 : (Cond.classLink own ix ("[" ++ (FieldType.array .int).toString)).before args s = true := by rw [e0]; exact hts _ hcl
  have hcy : s.vm.findClass (FieldType.array .int).toString = some (g.2.2.2 0) := (hG.2.1.2 0 _ rfl).2
  have hP0 : va_P g.2.1 vwCl (ws ++ va_pl [] (fun _ => .inr (0, []))) H := by
    rw [show va_pl [] (fun _ => .inr (0, [])) = [] from rfl, List.append_nil]
    exact hP
  have hD0 : va_D A (ws ++ va_pl [] (fun _ => .inr (0, []))) := by
    rw [show va_pl [] (fun _ => .inr (0, [])) = [] from rfl, List.append_nil]
    exact hD
  refine va_mna (D := g.2.1) (cl := vwCl) (X := ws) (L := []) (f := fun _ => .inr (0, [])) (ty := .int) (cy := g.2.2.2 0) (N' := N') (K' := K') (z := (K', .inl fun _ => 0)) hx hb hown hcl2 hG.2.2.2 (hts _ (wt_at 71 (by decide +kernel) rfl)) hcy hG.2.1 hP0 hD0 hS hA hn hk hN hM (by omega) (by show K' * 4 ≤ _; omega) (by omega) rfl rfl (by omega) (by omega) (fun c9 => arrV_new c9 K' (.int 0)) d (fun q r cA H1 hinj hnl hK1 hP1 hD1 hS1 => ?_)
  have e1 : cA = g.2.2.2 2 := arr_pin (k := 2) hK1 rfl
  subst e1
  have e2 : (ws ++ [(q, .inl (g.2.2.2 2, N', .inr (.inr (.inr (.inr (fun i => if i < N' then some (r i) else none))))))]) ++ va_pl ([] ++ (List.range N').map r) (vr_up (fun _ => .inr (0, [])) ((List.range N').map r) (.inl (g.2.2.2 0, (K', .inl fun _ => 0)))) = ws ++ ((q, .inl (g.2.2.2 2, N', qrf fun i => if i < N' then some (r i) else none)) :: (List.range N').map fun i => (r i, .inl (g.2.2.2 0, K', .inl fun _ => 0))) := by
    rw [List.append_assoc, List.nil_append]
    congr 1
    show _ :: va_pl ((List.range N').map r) _ = _
    congr 1
    unfold va_pl
    rw [List.map_map]
    apply List.map_congr_left
    intro i hi
    show ((r i, vr_up (fun _ => .inr (0, [])) ((List.range N').map r) (.inl (g.2.2.2 0, (K', .inl fun _ => 0))) (r i)) : Nat × va_E) = _
    rw [vr_up_in (List.mem_map.mpr ⟨i, hi, rfl⟩)]
  rw [e2] at hP1 hD1
  exact (hK _ _ _ _ _ _).mp (kk q r) H1 locs ls hP1 hD1 hS1 hL
end KA
/-- new int[10][120] -/
theorem c_X0_init (g : Gl) : MetI g yX0_init cX0_init 1 1 20 11 1210 0 fs0 (W0 g) := by
  refine enterI rfl rfl (by decide) (fun h0 K M => ?_)
  refine i_aload M.mk 0 dX0_init_0 rfl rfl ?_
  refine i_obj M.mk dX0_init_1 (wt_at 60 (by decide +kernel) rfl) (wt_at 51 (by decide +kernel) rfl) (wt_at 52 (by decide +kernel) rfl) ⟨by decide, by decide⟩ ?_
  refine i_aload M.mk 0 dX0_init_4 rfl rfl ?_
  refine i_bipush M.mk 10 dX0_init_5 rfl ?_
  refine i_bipush M.mk 120 dX0_init_7 rfl ?_
  refine i_mna M.mk 10 120 dX0_init_9 (wt_at 61 (by decide +kernel) rfl) rfl rfl (by decide) (by decide) ⟨by decide, by decide⟩ ⟨by decide, Nat.le_of_ble_eq_true rfl⟩ (fun q r => ?_)
  show K 11 1210 13 [(0, .ref h0)] [.ref q, .ref h0] ((h0, .inr (0, [.null, .int 0])) :: ((q, .inl (g.2.2.2 2, 10, qrf fun i => if i < 10 then some (r i) else none)) :: rw0 g r))
  refine i_putF M.mk (k := 0) dX0_init_13 rfl inW0 tyX0_ok nmX0 (by decide) (wt_at 63 (by decide +kernel) rfl) rfl rfl rfl rfl rfl (Nat.le_of_ble_eq_true rfl) rfl ?_
  refine i_aload M.mk 0 dX0_init_16 rfl rfl ?_
  refine i_iconst M.mk 0 dX0_init_17 rfl ?_
  refine i_put M.mk (k := 1) dX0_init_18 rfl inW0 tyX0_ok nmX0 (by decide) (wt_at 64 (by decide +kernel) rfl) rfl rfl rfl rfl rfl (Nat.le_of_ble_eq_true rfl) rfl ?_
  refine i_ext M.mk (f' := fun i => some (r i)) (fun i hi => if_pos hi) ?_
  exact i_ret M (q, r) dX0_init_21 rfl ⟨Nat.le_refl _, Nat.le_refl _⟩
