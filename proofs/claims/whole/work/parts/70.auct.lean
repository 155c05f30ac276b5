/-! ===== an Auction and its table of bids ===== -/
def fs0 : List Value := [.null, .int 0]
def o0 (q : Nat) : va_E := .inr (0, [.ref q, .int 0])
def qrf (f : Nat → Option Nat) : (Nat → Int32) ⊕ (Nat → Int64) ⊕ (Nat → UInt32) ⊕ (Nat → UInt64) ⊕ (Nat → Option Nat) := .inr (.inr (.inr (.inr f)))
def rw0 (g : Gl) (r : Nat → Nat) : va_W := (List.range 10).map fun i => (r i, .inl (g.2.2.2 0, 120, .inl fun _ => 0))
def W0 (g : Gl) (h0 : Nat) (u : Nat × (Nat → Nat)) : va_W := (h0, o0 u.1) :: (u.1, .inl (g.2.2.2 2, 10, qrf fun i => some (u.2 i))) :: rw0 g u.2
theorem at_ext {D : va_G} {cl : List vw_C} {a n : Nat} {cA : ClassId} {f f' : Nat → Option Nat} {H : Heap} (h : ∀ i, i < n → f i = f' i) (k : va_at D cl (a, .inl (cA, n, qrf f)) H) : va_at D cl (a, .inl (cA, n, qrf f')) H := by
  have e : vp_cell cA (n, qrf f) = vp_cell cA (n, qrf f') := by
    show arrV cA n (fun j => va_rf (f j)) = arrV cA n (fun j => va_rf (f' j))
    unfold arrV
    congr 1
    congr 1
    funext j
    exact congrArg va_rf (h j.val j.isLt)
  show H[a]? = some (vp_cell cA (n, qrf f'))
  rw [← e]
  exact k
section KA
variable {g : Gl} {own : String} {cc : ByteArray} {nL fr lo mc ms : Nat} {ini : Bool} {K : KTI} {ce sl pc : Nat} {L : List (Nat × Value)} {st : List Value} {ws : va_W}
theorem i_ext (M : MkI g own cc nL fr lo mc ms ini K) {x : Nat × va_E} {a n : Nat} {cA : ClassId} {f f' : Nat → Option Nat} {rs : va_W} (h : ∀ i, i < n → f i = f' i) (kk : K ce sl pc L st (x :: (a, .inl (cA, n, qrf f')) :: rs)) : K ce sl pc L st (x :: (a, .inl (cA, n, qrf f)) :: rs) := by
  obtain ⟨p, e, R, s, m, args, below, meth, c, A, Q, C, hin, hK⟩ := M
  rw [hK] at kk ⊢
  intro H locs ls hP hD hS hL
  refine kk H locs ls (fun k q hk => ?_) ?_ hS hL
  · match k, hk with
    | 0, hk => exact hP 0 q hk
    | 1, hk =>
      cases hk
      exact at_ext h (hP 1 _ rfl)
    | k + 2, hk => exact hP (k + 2) q hk
  · have h1 : va_D A ((x :: (a, .inl (cA, n, qrf f)) :: rs).set 1 (a, .inl (cA, n, qrf f'))) := hD.set (p := 1) rfl
    exact h1
end KA
/-- new int[10][120] -/
theorem c_X0_init (g : Gl) : MetI g yX0_init cX0_init 1 1 20 11 1210 0 fs0 (W0 g) := by
  sorry
